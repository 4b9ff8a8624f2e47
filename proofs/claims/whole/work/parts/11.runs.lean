/-! RUNS: the abstract machine comes to an end with Q; its rows, an instruction each, are equations -/
theorem xo_more {X : xo_X} : ∀ (n d mid pc : Nat) (L : xo_L) (st : List Value) (g : xo_G) (q : Option Value × xo_G), xo_exec X n d mid pc L st g = some q → ∀ k : Nat, xo_exec X (n + k) d mid pc L st g = some q := by
  intro n
  induction n with
  | zero => intro d mid pc L st g q h; simp [xo_exec] at h
  | succ n ih =>
    intro d mid pc L st g q h k
    rw [show n + 1 + k = n + k + 1 by omega]
    unfold xo_exec at h ⊢
    cases hd : decode (xp_code mid) pc with
    | error e => rw [hd] at h; cases h
    | ok il =>
      obtain ⟨i, len⟩ := il
      rw [hd] at h
      dsimp only at h ⊢
      cases hl : xo_len i len with
      | false => rw [hl] at h; cases h
      | true =>
        rw [hl] at h
        dsimp only [cond_true] at h ⊢
        cases hr : xo_rt mid i st with
        | some r => rw [hr] at h; exact h
        | none =>
          rw [hr] at h
          dsimp only at h ⊢
          cases hi : xo_inv X mid i st g with
          | some c =>
            obtain ⟨m1, as, rest⟩ := c
            rw [hi] at h
            dsimp only at h ⊢
            cases d with
            | zero => cases h
            | succ d =>
              dsimp only at h ⊢
              split at h
              · rename_i hlen
                rw [if_pos hlen]
                cases he : xo_exec X n d m1 0 (xo_ent (xp_ml m1) as) [] g with
                | none => rw [he] at h; cases h
                | some z =>
                  rw [he] at h
                  rw [ih _ _ _ _ _ _ _ he k]
                  exact ih _ _ _ _ _ _ _ h k
              · cases h
          | none =>
            rw [hi] at h
            dsimp only at h ⊢
            cases hs : xo_stp X mid i pc L st g with
            | none => rw [hs] at h; cases h
            | some z =>
              rw [hs] at h
              exact ih _ _ _ _ _ _ _ h k
def ev_R (X : xo_X) (d mid pc : Nat) (L : xo_L) (st : List Value) (g : xo_G) (Q : Option Value → xo_G → Prop) : Prop := ∃ (n : Nat) (q : Option Value × xo_G), xo_exec X n d mid pc L st g = some q ∧ Q q.1 q.2
def ev_C (X : xo_X) (d mid : Nat) (as : List Value) (g : xo_G) (Q : Option Value → xo_G → Prop) : Prop := ev_R X d mid 0 (xo_ent (xp_ml mid) as) [] g Q
theorem ev_imp {X : xo_X} {d mid pc : Nat} {L : xo_L} {st : List Value} {g : xo_G} {Q Q' : Option Value → xo_G → Prop} (h : ev_R X d mid pc L st g Q) (hq : ∀ r g', Q r g' → Q' r g') : ev_R X d mid pc L st g Q' := by
  obtain ⟨n, q, h1, h2⟩ := h
  exact ⟨n, q, h1, hq _ _ h2⟩
/-- one end alone -/
theorem ev_det {X : xo_X} {d mid pc : Nat} {L : xo_L} {st : List Value} {g : xo_G} {r : Option Value} {g' : xo_G} (h : ev_R X d mid pc L st g (fun a b => a = r ∧ b = g')) (Q : Option Value → xo_G → Prop) : ev_R X d mid pc L st g Q ↔ Q r g' := by
  obtain ⟨n, ⟨a, b⟩, h1, h2, h3⟩ := h
  dsimp only at h2 h3
  subst h2; subst h3
  constructor
  · rintro ⟨k, q, h4, h5⟩
    have e1 := xo_more _ _ _ _ _ _ _ _ h1 k
    have e2 := xo_more _ _ _ _ _ _ _ _ h4 n
    rw [Nat.add_comm] at e2
    rw [e1] at e2
    cases e2
    exact h5
  · intro h
    exact ⟨n, _, h1, h⟩
theorem ev_call_det {X : xo_X} {d mid : Nat} {as : List Value} {g : xo_G} {r : Option Value} {g' : xo_G} (h : ev_C X d mid as g (fun a b => a = r ∧ b = g')) (Q : Option Value → xo_G → Prop) : ev_C X d mid as g Q ↔ Q r g' := ev_det h Q
section EV
variable {X : xo_X} {d mid pc : Nat} {L : xo_L} {st : List Value} {g : xo_G} {Q : Option Value → xo_G → Prop}
theorem ev_one (hd : ∀ n : Nat, xo_exec X (n + 1) d mid pc L st g = none) : ev_R X d mid pc L st g Q ↔ False := by
  constructor
  · rintro ⟨n, q, h, -⟩
    cases n with
    | zero => simp [xo_exec] at h
    | succ n => rw [hd n] at h; cases h
  · exact False.elim
theorem ev_nxt {pc' : Nat} {L' : xo_L} {st' : List Value} {g' : xo_G} (hd : ∀ n : Nat, xo_exec X (n + 1) d mid pc L st g = xo_exec X n d mid pc' L' st' g') : ev_R X d mid pc L st g Q ↔ ev_R X d mid pc' L' st' g' Q := by
  constructor
  · rintro ⟨n, q, h, hq⟩
    cases n with
    | zero => simp [xo_exec] at h
    | succ n => rw [hd n] at h; exact ⟨n, q, h, hq⟩
  · rintro ⟨n, q, h, hq⟩
    exact ⟨n + 1, q, by rw [hd n]; exact h, hq⟩
/-- an instruction that neither calls nor returns -/
theorem ev_stp {i : Instr} {len : Nat} {k : xo_K} (hd : decode (xp_code mid) pc = .ok (i, len)) (hl : xo_len i len = true) (hr : xo_rt mid i st = none) (hi : xo_inv X mid i st g = none) (hs : xo_stp X mid i pc L st g = some k) : ev_R X d mid pc L st g Q ↔ ev_R X d mid k.1 k.2.1 k.2.2.1 k.2.2.2 Q := by
  refine ev_nxt fun n => ?_
  conv => lhs; unfold xo_exec
  rw [hd]
  dsimp only
  rw [hl, hr, hi, hs]
  rfl
theorem ev_stuck {i : Instr} {len : Nat} (hd : decode (xp_code mid) pc = .ok (i, len)) (hl : xo_len i len = true) (hr : xo_rt mid i st = none) (hi : xo_inv X mid i st g = none) (hs : xo_stp X mid i pc L st g = none) : ev_R X d mid pc L st g Q ↔ False := by
  refine ev_one fun n => ?_
  unfold xo_exec
  rw [hd]
  dsimp only
  rw [hl, hr, hi, hs]
  rfl
theorem ev_ret {i : Instr} {len : Nat} {r : Option Value} (hd : decode (xp_code mid) pc = .ok (i, len)) (hl : xo_len i len = true) (hr : xo_rt mid i st = some r) : ev_R X d mid pc L st g Q ↔ Q r g := by
  have he : ∀ n : Nat, xo_exec X (n + 1) d mid pc L st g = some (r, g) := fun n => by
    unfold xo_exec
    rw [hd]
    dsimp only
    rw [hl, hr]
    rfl
  constructor
  · rintro ⟨n, q, h, hq⟩
    cases n with
    | zero => simp [xo_exec] at h
    | succ n =>
      rw [he n] at h
      cases h
      exact hq
  · intro hq
    exact ⟨1, _, he 0, hq⟩
theorem ev_retN {i : Instr} {len : Nat} (hd : decode (xp_code mid) pc = .ok (i, len)) (hl : xo_len i len = true) (hr : xo_rt mid i st = none) (hi : xo_inv X mid i st g = none) (hs : xo_stp X mid i pc L st g = none) : ev_R X d mid pc L st g Q ↔ False := ev_stuck hd hl hr hi hs
theorem ev_call {i : Instr} {len q : Nat} {as rest : List Value} (hd : decode (xp_code mid) pc = .ok (i, len)) (hl : xo_len i len = true) (hr : xo_rt mid i st = none) (hi : xo_inv X mid i st g = some (q, as, rest)) (hn : (xo_sl as).length ≤ xp_ml q) : ev_R X (d + 1) mid pc L st g Q ↔ ev_C X d q as g (fun r g' => ev_R X (d + 1) mid (pc + 3) L (r.toList ++ rest) g' Q) := by
  have he : ∀ n : Nat, xo_exec X (n + 1) (d + 1) mid pc L st g = match xo_exec X n d q 0 (xo_ent (xp_ml q) as) [] g with
      | some (r, g') => xo_exec X n (d + 1) mid (pc + 3) L (r.toList ++ rest) g'
      | none => none := fun n => by
    conv => lhs; unfold xo_exec
    rw [hd]
    dsimp only
    rw [hl, hr, hi]
    dsimp only [cond_true]
    rw [if_pos hn]
    rfl
  constructor
  · rintro ⟨n, z, h, hq⟩
    cases n with
    | zero => simp [xo_exec] at h
    | succ n =>
      rw [he n] at h
      split at h
      · rename_i r g' h1
        exact ⟨n, (r, g'), h1, n, z, h, hq⟩
      · cases h
  · rintro ⟨n, ⟨r, g'⟩, h1, k, z, h2, hq⟩
    refine ⟨n + k + 1, z, ?_, hq⟩
    rw [he]
    rw [xo_more _ _ _ _ _ _ _ _ h1 k]
    dsimp only
    rw [show n + k = k + n by omega]
    exact xo_more _ _ _ _ _ _ _ _ h2 n
/-- reads, as continuations -/
def ev_gf (g : xo_G) (a ci j : Nat) (K : Value → Prop) : Prop := match g.1 a with
  | some (.inl (c, F)) => c = ci ∧ K (F j)
  | _ => False
def ev_pf (g : xo_G) (a ci j : Nat) (v : Value) (ok : Prop) (K : xo_G → Prop) : Prop := match g.1 a with
  | some (.inl (c, F)) => (c = ci ∧ xo_fit (xp_ty ci j) v = true ∧ ok) ∧ K (xo_set g a (.inl (ci, va_up F j v)))
  | _ => False
def ev_ia (X : xo_X) (g : xo_G) (a : Nat) (i : Int32) (K : Int32 → Prop) : Prop := match xo_ri X g a with
  | some (n, f) => xo_out i n = false ∧ K (f i.toNatClampNeg)
  | none => False
def ev_ba (X : xo_X) (g : xo_G) (a : Nat) (i : Int32) (K : Int32 → Prop) : Prop := match xo_rb X g a with
  | some (n, f) => xo_out i n = false ∧ K (f i.toNatClampNeg)
  | none => False
def ev_la (X : xo_X) (g : xo_G) (a : Nat) (i : Int32) (K : Int64 → Prop) : Prop := match xo_rl X g a with
  | some (n, f) => xo_out i n = false ∧ K (f i.toNatClampNeg)
  | none => False
def ev_qa (g : xo_G) (a : Nat) (i : Int32) (K : Value → Prop) : Prop := match xo_rq g a with
  | some (n, f) => xo_out i n = false ∧ K (va_rf (f i.toNatClampNeg))
  | none => False
def ev_al (X : xo_X) (g : xo_G) (a : Nat) (K : Int32 → Prop) : Prop := match xo_al X g a with
  | some n => K (Int32.ofNat n)
  | none => False
def ev_is (g : xo_G) (a : Nat) (i x : Int32) (K : xo_G → Prop) : Prop := match g.1 a with
  | some (.inr (.int, (n, .inl f))) => xo_out i n = false ∧ K (xo_set g a (.inr (.int, (n, .inl (upd f i.toNatClampNeg x)))))
  | _ => False
def ev_bs (g : xo_G) (a : Nat) (i x : Int32) (K : xo_G → Prop) : Prop := match g.1 a with
  | some (.inr (.byte, (n, .inl f))) => xo_out i n = false ∧ K (xo_set g a (.inr (.byte, (n, .inl (upd f i.toNatClampNeg (vp_nar .byte x))))))
  | some (.inr (.boolean, (n, .inl f))) => xo_out i n = false ∧ K (xo_set g a (.inr (.boolean, (n, .inl (upd f i.toNatClampNeg (vp_nar .boolean x))))))
  | _ => False
def ev_lst (g : xo_G) (a : Nat) (i : Int32) (x : Int64) (K : xo_G → Prop) : Prop := match g.1 a with
  | some (.inr (.long, (n, .inr (.inl f)))) => xo_out i n = false ∧ K (xo_set g a (.inr (.long, (n, .inr (.inl (vp_updL f i.toNatClampNeg x))))))
  | _ => False
theorem ev_getfield {a k ci j : Nat} (hd : decode (xp_code mid) pc = .ok (.getfield k, 3)) (hf : xp_field (xp_own mid) k = some (ci, j)) : ev_R X d mid pc L (.ref a :: st) g Q ↔ ev_gf g a ci j (fun v => ev_R X d mid (pc + 3) L (v :: st) g Q) := by
  have hs : xo_stp X mid (.getfield k) pc L (.ref a :: st) g = (match g.1 a with
      | some (.inl (c, F)) => if c = ci then some (pc + 3, L, F j :: st, g) else none
      | _ => none) := by simp only [xo_stp, xo_r1, hf]; rfl
  unfold ev_gf
  split
  · rename_i c F hg
    rw [hg] at hs
    dsimp only at hs
    by_cases hc : c = ci
    · rw [if_pos hc] at hs
      rw [ev_stp hd rfl rfl rfl hs]
      simp [hc]
    · rw [if_neg hc] at hs
      rw [ev_stuck hd rfl rfl rfl hs]
      simp [hc]
  · rename_i hn
    rw [ev_stuck hd rfl rfl rfl]
    rw [hs]
    split
    · rename_i hg
      exact absurd hg (hn _ _)
    · rfl
theorem ev_putfield {a k ci j : Nat} {v : Value} (hd : decode (xp_code mid) pc = .ok (.putfield k, 3)) (hf : xp_field (xp_own mid) k = some (ci, j)) : ev_R X d mid pc L (v :: .ref a :: st) g Q ↔ ev_pf g a ci j v (xp_fin ci j = true → (xp_nm mid).name = "<init>" ∧ xp_own mid = ci) (fun g' => ev_R X d mid (pc + 3) L st g' Q) := by
  have hs : xo_stp X mid (.putfield k) pc L (v :: .ref a :: st) g = (match g.1 a with
      | some (.inl (c, F)) => if c = ci ∧ xo_fit (xp_ty ci j) v = true ∧ (xp_fin ci j = true → (xp_nm mid).name = "<init>" ∧ xp_own mid = ci) then some (pc + 3, L, st, xo_set g a (.inl (ci, va_up F j v))) else none
      | _ => none) := by simp only [xo_stp, hf]; rfl
  unfold ev_pf
  split
  · rename_i c F hg
    rw [hg] at hs
    dsimp only at hs
    by_cases hc : c = ci ∧ xo_fit (xp_ty ci j) v = true ∧ (xp_fin ci j = true → (xp_nm mid).name = "<init>" ∧ xp_own mid = ci)
    · rw [if_pos hc] at hs
      rw [ev_stp hd rfl rfl rfl hs]
      exact ⟨fun h => ⟨hc, h⟩, fun h => h.2⟩
    · rw [if_neg hc] at hs
      rw [ev_stuck hd rfl rfl rfl hs]
      exact ⟨False.elim, fun h => hc h.1⟩
  · rename_i hn
    rw [ev_stuck hd rfl rfl rfl]
    · rw [hs]
      split
      · rename_i hg
        exact absurd hg (hn _ _)
      · rfl
theorem ev_iaload {a : Nat} {i : Int32} (hd : decode (xp_code mid) pc = .ok (.iaload, 1)) : ev_R X d mid pc L (.int i :: .ref a :: st) g Q ↔ ev_ia X g a i (fun v => ev_R X d mid (pc + 1) L (.int v :: st) g Q) := by
  unfold ev_ia
  split
  · rename_i n f hn
    cases ho : xo_out i n with
    | true =>
      rw [ev_stuck hd rfl rfl rfl (by simp only [xo_stp, xo_ri1, hn, ho, cond_true])]
      simp
    | false =>
      rw [ev_stp hd rfl rfl rfl (by simp only [xo_stp, xo_ri1, hn, ho, cond_false]; rfl)]
      simp
  · rename_i hn
    rw [ev_stuck hd rfl rfl rfl (by simp only [xo_stp, xo_ri1, hn])]
theorem ev_baload {a : Nat} {i : Int32} (hd : decode (xp_code mid) pc = .ok (.baload, 1)) : ev_R X d mid pc L (.int i :: .ref a :: st) g Q ↔ ev_ba X g a i (fun v => ev_R X d mid (pc + 1) L (.int v :: st) g Q) := by
  unfold ev_ba
  split
  · rename_i n f hn
    cases ho : xo_out i n with
    | true =>
      rw [ev_stuck hd rfl rfl rfl (by simp only [xo_stp, xo_ri1, hn, ho, cond_true])]
      simp
    | false =>
      rw [ev_stp hd rfl rfl rfl (by simp only [xo_stp, xo_ri1, hn, ho, cond_false]; rfl)]
      simp
  · rename_i hn
    rw [ev_stuck hd rfl rfl rfl (by simp only [xo_stp, xo_ri1, hn])]
theorem ev_laload {a : Nat} {i : Int32} (hd : decode (xp_code mid) pc = .ok (.laload, 1)) : ev_R X d mid pc L (.int i :: .ref a :: st) g Q ↔ ev_la X g a i (fun v => ev_R X d mid (pc + 1) L (.long v :: st) g Q) := by
  unfold ev_la
  split
  · rename_i n f hn
    cases ho : xo_out i n with
    | true =>
      rw [ev_stuck hd rfl rfl rfl (by simp only [xo_stp, xo_ri1, hn, ho, cond_true])]
      simp
    | false =>
      rw [ev_stp hd rfl rfl rfl (by simp only [xo_stp, xo_ri1, hn, ho, cond_false]; rfl)]
      simp
  · rename_i hn
    rw [ev_stuck hd rfl rfl rfl (by simp only [xo_stp, xo_ri1, hn])]
theorem ev_aaload {a : Nat} {i : Int32} (hd : decode (xp_code mid) pc = .ok (.aaload, 1)) : ev_R X d mid pc L (.int i :: .ref a :: st) g Q ↔ ev_qa g a i (fun v => ev_R X d mid (pc + 1) L (v :: st) g Q) := by
  unfold ev_qa
  split
  · rename_i n f hn
    cases ho : xo_out i n with
    | true =>
      rw [ev_stuck hd rfl rfl rfl (by simp only [xo_stp, xo_ri1, hn, ho, cond_true])]
      simp
    | false =>
      rw [ev_stp hd rfl rfl rfl (by simp only [xo_stp, xo_ri1, hn, ho, cond_false]; rfl)]
      simp
  · rename_i hn
    rw [ev_stuck hd rfl rfl rfl (by simp only [xo_stp, xo_ri1, hn])]
theorem ev_alen {a : Nat} (hd : decode (xp_code mid) pc = .ok (.arraylength, 1)) : ev_R X d mid pc L (.ref a :: st) g Q ↔ ev_al X g a (fun v => ev_R X d mid (pc + 1) L (.int v :: st) g Q) := by
  unfold ev_al
  split
  · rename_i n hn
    rw [ev_stp hd rfl rfl rfl (by simp only [xo_stp, xo_r1, hn]; rfl)]
  · rename_i hn
    rw [ev_stuck hd rfl rfl rfl (by simp only [xo_stp, xo_r1, hn])]
theorem ev_iastore {a : Nat} {i : Int32} {x : Int32} (hd : decode (xp_code mid) pc = .ok (.iastore, 1)) : ev_R X d mid pc L (.int x :: .int i :: .ref a :: st) g Q ↔ ev_is g a i x (fun g' => ev_R X d mid (pc + 1) L st g' Q) := by
  unfold ev_is
  split
  · rename_i n f hn
    cases ho : xo_out i n with
    | true =>
      rw [ev_stuck hd rfl rfl rfl (by simp only [xo_stp, xo_rii, hn, ho, cond_true])]
      simp
    | false =>
      rw [ev_stp hd rfl rfl rfl (by simp only [xo_stp, xo_rii, hn, ho, cond_false]; rfl)]
      simp
  · rename_i hn
    rw [ev_stuck hd rfl rfl rfl]
    simp only [xo_stp, xo_rii]
theorem ev_lastore {a : Nat} {i : Int32} {x : Int64} (hd : decode (xp_code mid) pc = .ok (.lastore, 1)) : ev_R X d mid pc L (.long x :: .int i :: .ref a :: st) g Q ↔ ev_lst g a i x (fun g' => ev_R X d mid (pc + 1) L st g' Q) := by
  unfold ev_lst
  split
  · rename_i n f hn
    cases ho : xo_out i n with
    | true =>
      rw [ev_stuck hd rfl rfl rfl (by simp only [xo_stp, xo_ril, hn, ho, cond_true])]
      simp
    | false =>
      rw [ev_stp hd rfl rfl rfl (by simp only [xo_stp, xo_ril, hn, ho, cond_false]; rfl)]
      simp
  · rename_i hn
    rw [ev_stuck hd rfl rfl rfl]
    simp only [xo_stp, xo_ril]
theorem ev_bastore {a : Nat} {i x : Int32} (hd : decode (xp_code mid) pc = .ok (.bastore, 1)) : ev_R X d mid pc L (.int x :: .int i :: .ref a :: st) g Q ↔ ev_bs g a i x (fun g' => ev_R X d mid (pc + 1) L st g' Q) := by
  unfold ev_bs
  split
  · rename_i n f hn
    cases ho : xo_out i n with
    | true =>
      rw [ev_stuck hd rfl rfl rfl (by simp only [xo_stp, xo_rii, hn, ho, cond_true])]
      simp
    | false =>
      rw [ev_stp hd rfl rfl rfl (by simp only [xo_stp, xo_rii, hn, ho, cond_false]; rfl)]
      simp
  · rename_i n f hn
    cases ho : xo_out i n with
    | true =>
      rw [ev_stuck hd rfl rfl rfl (by simp only [xo_stp, xo_rii, hn, ho, cond_true])]
      simp
    | false =>
      rw [ev_stp hd rfl rfl rfl (by simp only [xo_stp, xo_rii, hn, ho, cond_false]; rfl)]
      simp
  · rw [ev_stuck hd rfl rfl rfl]
    simp only [xo_stp, xo_rii]
/-- branches -/
theorem ev_if {c : ClassFile.Cond} {off : Int} {x : Int32} {t : Nat} (hd : decode (xp_code mid) pc = .ok (.ifCond c off, 3)) (ht : (pc : Int) + off = (t : Int)) : ev_R X d mid pc L (.int x :: st) g Q ↔ if xo_cnd c x 0 = true then ev_R X d mid t L st g Q else ev_R X d mid (pc + 3) L st g Q := by
  have h0 : 0 ≤ (pc : Int) + off := by omega
  have e : ((pc : Int) + off).toNat = t := by omega
  cases hc : xo_cnd c x 0 with
  | true =>
    rw [ev_stp hd rfl rfl rfl (by simp only [xo_stp, xo_i1, xo_bra, if_pos h0, hc, cond_true, e]; rfl)]
    simp
  | false =>
    rw [ev_stp hd rfl rfl rfl (by simp only [xo_stp, xo_i1, xo_bra, if_pos h0, hc, cond_false]; rfl)]
    simp
theorem ev_icmp {c : ClassFile.Cond} {off : Int} {x y : Int32} {t : Nat} (hd : decode (xp_code mid) pc = .ok (.if_icmp c off, 3)) (ht : (pc : Int) + off = (t : Int)) : ev_R X d mid pc L (.int y :: .int x :: st) g Q ↔ if xo_cnd c x y = true then ev_R X d mid t L st g Q else ev_R X d mid (pc + 3) L st g Q := by
  have h0 : 0 ≤ (pc : Int) + off := by omega
  have e : ((pc : Int) + off).toNat = t := by omega
  cases hc : xo_cnd c x y with
  | true =>
    rw [ev_stp hd rfl rfl rfl (by simp only [xo_stp, xo_i2, xo_bra, if_pos h0, hc, cond_true, e]; rfl)]
    simp
  | false =>
    rw [ev_stp hd rfl rfl rfl (by simp only [xo_stp, xo_i2, xo_bra, if_pos h0, hc, cond_false]; rfl)]
    simp
theorem ev_goto {off : Int} {t : Nat} (hd : decode (xp_code mid) pc = .ok (.goto off, 3)) (ht : (pc : Int) + off = (t : Int)) : ev_R X d mid pc L st g Q ↔ ev_R X d mid t L st g Q := by
  have h0 : 0 ≤ (pc : Int) + off := by omega
  have e : ((pc : Int) + off).toNat = t := by omega
  rw [ev_stp hd rfl rfl rfl (by simp only [xo_stp, xo_jmp, if_pos h0, e]; rfl)]
theorem ev_sto {i : Instr} {len k : Nat} {v : Value} {st' : List Value} {n : Nat} (hd : decode (xp_code mid) pc = .ok (i, len)) (hl : xo_len i len = true) (hr : xo_rt mid i st = none) (hi : xo_inv X mid i st g = none) (hs : xo_stp X mid i pc L st g = xo_sto L k v n st' g) (hk : k < L.length) (hn : xo_nl L k = true) : ev_R X d mid pc L st g Q ↔ ev_R X d mid n (L.set k (some v)) st' g Q := by
  rw [ev_stp hd hl hr hi (by rw [hs]; simp only [xo_sto, hk, hn, decide_true, Bool.and_self, if_true]; rfl)]
theorem ev_bool {x : Int32} {i : Instr} {len : Nat} (hd : decode (xp_code mid) pc = .ok (.ireturn, 1)) (hr : xp_rt mid = some .boolean) : ev_R X d mid pc L [.int x] g Q ↔ (x = 0 ∨ x = 1) ∧ Q (some (.int x)) g := by
  by_cases hx : x = 0 ∨ x = 1
  · rw [ev_ret hd rfl (by simp only [xo_rt, hr, if_pos hx]; rfl)]
    simp [hx]
  · rw [ev_stuck hd rfl (by simp only [xo_rt, hr, if_neg hx]) rfl rfl]
    simp [hx]
end EV
/-- no long lies in this place -/
def ev_ok (o : Option Value) : Bool := match o with
  | some v => v.category == 1
  | none => true
theorem ev_ok_n : ev_ok none = true := rfl
theorem ev_ok_i (x : Int32) : ev_ok (some (.int x)) = true := rfl
theorem ev_ok_r (x : Nat) : ev_ok (some (.ref x)) = true := rfl
theorem ev_dec {b : Bool} {c p q : Prop} [Decidable c] (h : b = true ↔ c) : (if b = true then p else q) ↔ (if c then p else q) := by
  by_cases hc : c
  · rw [if_pos hc, if_pos (h.mpr hc)]
  · rw [if_neg hc, if_neg (fun z => hc (h.mp z))]
theorem ev_pf_ok {g : xo_G} {a ci j : Nat} {v : Value} {ok : Prop} {K : xo_G → Prop} (h : ok) : ev_pf g a ci j v ok K ↔ ev_pf g a ci j v True K := by
  unfold ev_pf
  split
  · simp [h]
  · exact Iff.rfl
def ev_rm (st : List Value) (n : Nat) : Prop := (st.map fun v => v.category).sum ≤ n
theorem ev_rm_n (n : Nat) : ev_rm [] n = True := by simp [ev_rm]
theorem ev_rm_i (x : Int32) (st : List Value) (n : Nat) : ev_rm (.int x :: st) (n + 1) = ev_rm st n := by
  simp only [ev_rm, List.map_cons, List.sum_cons, Value.category, eq_iff_iff]
  omega
theorem ev_rm_r (x : Nat) (st : List Value) (n : Nat) : ev_rm (.ref x :: st) (n + 1) = ev_rm st n := by
  simp only [ev_rm, List.map_cons, List.sum_cons, Value.category, eq_iff_iff]
  omega
theorem ev_rm_l (x : Int64) (st : List Value) (n : Nat) : ev_rm (.long x :: st) (n + 2) = ev_rm st n := by
  simp only [ev_rm, List.map_cons, List.sum_cons, Value.category, eq_iff_iff]
  omega
def ev_rc (X : xo_X) (g : xo_G) (b ci : Nat) (P : Prop) : Prop := match xo_ob X g b with
  | some (c, _) => c = ci ∧ P
  | none => False
theorem xp_call_no : ∀ q ∈ xp_cl, (xp_math q.1 q.2.1 = none ∧ xp_ac.contains (q.1, q.2.1) = false) := by decide +kernel
theorem xo_stp_call {X : xo_X} {mid k q pc : Nat} {L : xo_L} {st : List Value} {g : xo_G} (hc : xp_call (xp_own mid) k = some q) : xo_stp X mid (.invokestatic k) pc L st g = none := by
  obtain ⟨⟨a, b, c, e⟩, h1, h2, h3⟩ := xp_find2 hc
  simp only [Bool.and_eq_true, beq_iff_eq] at h2
  obtain ⟨rfl, rfl⟩ := h2
  obtain ⟨h4, h5⟩ := xp_call_no _ h1
  dsimp only at h4 h5
  simp only [xo_stp, h4, h5]
  simp
section EW
variable {X : xo_X} {d mid pc : Nat} {L : xo_L} {st : List Value} {g : xo_G} {Q : Option Value → xo_G → Prop}
theorem ev_virt {k q b ci : Nat} {st0 as : List Value} (hd : decode (xp_code mid) pc = .ok (.invokevirtual k, 3)) (hc : xp_call (xp_own mid) k = some q) (ho : xp_own q = ci) (hs : xp_st q = false) (hn : (xp_nm q).name ≠ "<init>") (h1 : st0.drop (xp_np q) = .ref b :: st) (h2 : (st0.take (xp_np q)).reverse = as) (h3 : xo_rt mid (.invokevirtual k) st0 = none) (hl : (xo_sl (.ref b :: as)).length ≤ xp_ml q) : ev_R X (d + 1) mid pc L st0 g Q ↔ ev_rc X g b ci (ev_rm st 8 ∧ ev_C X d q (.ref b :: as) g (fun r g1 => ev_R X (d + 1) mid (pc + 3) L (r.toList ++ st) g1 Q)) := by
  subst h2
  unfold ev_rc
  split
  · rename_i c F hob
    by_cases hcc : c = ci ∧ ev_rm st 8
    · obtain ⟨rfl, hr⟩ := hcc
      rw [ev_call hd rfl h3 (q := q) (as := .ref b :: (st0.take (xp_np q)).reverse) (rest := st) (by simp only [xo_inv, hc, h1, hob]; rw [if_pos ⟨hs, hn⟩, if_pos ⟨ho.symm, hr⟩]) hl]
      simp [hr]
    · rw [ev_stuck hd rfl h3 (by simp only [xo_inv, hc, h1, hob]; rw [if_pos ⟨hs, hn⟩, if_neg (fun z => hcc ⟨z.1.trans ho, z.2⟩)]) rfl]
      exact ⟨False.elim, fun z => hcc ⟨z.1, z.2.1⟩⟩
  · rename_i hob
    rw [ev_stuck hd rfl h3 (by simp only [xo_inv, hc, h1, hob]; rw [if_pos ⟨hs, hn⟩]) rfl]
theorem ev_stat {k q : Nat} {st0 as : List Value} (hd : decode (xp_code mid) pc = .ok (.invokestatic k, 3)) (hc : xp_call (xp_own mid) k = some q) (hs : xp_st q = true) (h1 : st0 = as.reverse ++ st) (h2 : xp_np q = as.length) (h3 : xo_rt mid (.invokestatic k) st0 = none) (hl : (xo_sl as).length ≤ xp_ml q) : ev_R X (d + 1) mid pc L st0 g Q ↔ ev_rm st 8 ∧ ev_C X d q as g (fun r g1 => ev_R X (d + 1) mid (pc + 3) L (r.toList ++ st) g1 Q) := by
  have e1 : st0.drop (xp_np q) = st := by rw [h1, h2, List.drop_left' (by simp)]
  have e2 : (st0.take (xp_np q)).reverse = as := by rw [h1, h2, List.take_left' (by simp), List.reverse_reverse]
  have e3 : xp_np q ≤ st0.length := by rw [h1, h2]; simp
  by_cases hr : ev_rm st 8
  · rw [ev_call hd rfl h3 (q := q) (as := as) (rest := st) (by simp only [xo_inv, hc, e1, e2]; rw [if_pos ⟨hs, e3, hr⟩]) hl]
    simp [hr]
  · rw [ev_stuck hd rfl h3 (by simp only [xo_inv, hc, e1, e2]; rw [if_neg (fun z => hr z.2.2)]) (xo_stp_call hc)]
    exact ⟨False.elim, fun z => hr z.1⟩
end EW
theorem ev_s4 {X : xo_X} {d mid pc : Nat} {L : xo_L} {st : List Value} {g : xo_G} {Q : Option Value → xo_G → Prop} {i : Instr} {len pc' : Nat} {L' : xo_L} {st' : List Value} {g' : xo_G} (hd : decode (xp_code mid) pc = .ok (i, len)) (hl : xo_len i len = true) (hr : xo_rt mid i st = none) (hi : xo_inv X mid i st g = none) (hs : xo_stp X mid i pc L st g = some (pc', L', st', g')) : ev_R X d mid pc L st g Q ↔ ev_R X d mid pc' L' st' g' Q := ev_stp hd hl hr hi hs
theorem xo_nl_ok {L : xo_L} {k : Nat} {o : Option Value} (h : L[k]? = some o) (ho : ev_ok o = true) : xo_nl L (k + 1) = true := by
  unfold xo_nl
  dsimp only
  rw [h]
  cases o with
  | none => rfl
  | some v => exact ho
