/-! RUNS, the rest of the instructions: switches, new objects and arrays, arraycopy, Math, constants, texts -/
def ev_qs (g : xo_G) (a : Nat) (i : Int32) (x : Nat) (K : xo_G → Prop) : Prop := match g.1 a, g.1 x with
  | some (.inr (.object C, (n, .inr (.inr (.inr (.inr f)))))), some (.inl (ci, _)) => (xo_out i n || !(ci == 1) || !(C == "DilemmaProver$Equivalence")) = false ∧ K (xo_set g a (.inr (.object C, (n, .inr (.inr (.inr (.inr (va_up f i.toNatClampNeg (some x)))))))))
  | _, _ => False
def ev_ac (g : xo_G) (b : Nat) (sp : Int32) (a : Nat) (dp n : Int32) (K : xo_G → Prop) : Prop := match g.1 b, g.1 a with
  | some (.inr (.int, (n0, .inl f))), some (.inr (.int, (n1, .inl h))) => (¬ sp < 0 ∧ ¬ dp < 0 ∧ ¬ n < 0 ∧ sp.toNatClampNeg + n.toNatClampNeg ≤ n0 ∧ dp.toNatClampNeg + n.toNatClampNeg ≤ n1) ∧ K (xo_set g a (.inr (.int, (n1, .inl (va_cpy f h sp.toNatClampNeg dp.toNatClampNeg n.toNatClampNeg)))))
  | _, _ => False
def ev_sg (X : xo_X) (g : xo_G) (a j : Nat) (K : Value → Prop) : Prop := match g.1 a, X.2.2.2.1 a with
  | none, some (_, F) => K (F j)
  | _, _ => False
section EX
variable {X : xo_X} {d mid pc : Nat} {L : xo_L} {st : List Value} {g : xo_G} {Q : Option Value → xo_G → Prop}
theorem ev_ne {x : Int32} {c : Int} (h : ¬ x = Int32.ofInt c) : ¬ x.toInt = c := fun e => h (by rw [← e, Int32.ofInt_toInt])
theorem ev_tsw {dflt lo hi : Int} {offs : Array Int} {len t : Nat} {off : Int} {x : Int32} (hd : decode (xp_code mid) pc = .ok (.tableswitch dflt lo hi offs, len)) (ho : (if x.toInt < lo ∨ hi < x.toInt then some dflt else offs[(x.toInt - lo).toNat]?) = some off) (ht : (pc : Int) + off = (t : Int)) : ev_R X d mid pc L (.int x :: st) g Q ↔ ev_R X d mid t L st g Q := by
  have h0 : 0 ≤ (pc : Int) + off := by omega
  have e : ((pc : Int) + off).toNat = t := by omega
  refine ev_s4 hd rfl rfl rfl ?_
  simp only [xo_stp, xo_i1]
  split at ho
  · rename_i hc
    cases ho
    rw [if_pos hc]
    simp only [xo_jmp, if_pos h0, e]
  · rename_i hc
    rw [if_neg hc, ho]
    simp only [xo_jmp, if_pos h0, e]
theorem ev_lsw {dflt : Int} {ps : Array (Int × Int)} {len t : Nat} {x : Int32} (hd : decode (xp_code mid) pc = .ok (.lookupswitch dflt ps, len)) (hs : (ps.toList.zip (ps.toList.drop 1)).all (fun (a, next) => a.1 < next.1) = true) (ht : (pc : Int) + Op.lookupswitch.offset ps.toList dflt x.toInt = (t : Int)) : ev_R X d mid pc L (.int x :: st) g Q ↔ ev_R X d mid t L st g Q := by
  have h0 : 0 ≤ (pc : Int) + Op.lookupswitch.offset ps.toList dflt x.toInt := by omega
  have e : ((pc : Int) + Op.lookupswitch.offset ps.toList dflt x.toInt).toNat = t := by omega
  refine ev_s4 hd rfl rfl rfl ?_
  simp only [xo_stp, xo_i1]
  rw [if_pos hs]
  simp only [xo_jmp, if_pos h0, e]
theorem ev_spec {k q b : Nat} {st0 as : List Value} (hd : decode (xp_code mid) pc = .ok (.invokespecial k, 3)) (hc : (xp_call (xp_own mid) k <|> xp_ncall (xp_own mid) k) = some q) (hs : xp_st q = false) (hn : (xp_nm q).name = "<init>") (hoi : xp_oi.any (fun q => q.1 == xp_own mid && q.2.1 == k) = false) (h1 : st0.drop (xp_np q) = .ref b :: st) (h2 : (st0.take (xp_np q)).reverse = as) (h3 : xo_rt mid (.invokespecial k) st0 = none) (hl : (xo_sl (.ref b :: as)).length ≤ xp_ml q) : ev_R X (d + 1) mid pc L st0 g Q ↔ ev_rm st 8 ∧ ev_C X d q (.ref b :: as) g (fun r g1 => ev_R X (d + 1) mid (pc + 3) L (r.toList ++ st) g1 Q) := by
  subst h2
  by_cases hr : (st.map fun v => v.category).sum ≤ 8
  · rw [ev_call hd rfl h3 (q := q) (as := .ref b :: (st0.take (xp_np q)).reverse) (rest := st) (by simp only [xo_inv, hc, h1]; rw [if_pos ⟨hs, hn⟩, if_pos hr]) hl]
    exact ⟨fun z => ⟨hr, z⟩, fun z => z.2⟩
  · rw [ev_stuck hd rfl h3 (by simp only [xo_inv, hc, h1]; rw [if_pos ⟨hs, hn⟩, if_neg hr]) (by simp only [xo_stp, hoi]; simp)]
    exact ⟨False.elim, fun z => hr z.1⟩
/-- Object's constructor -/
theorem ev_oi {k a : Nat} (hd : decode (xp_code mid) pc = .ok (.invokespecial k, 3)) (hc : (xp_call (xp_own mid) k <|> xp_ncall (xp_own mid) k) = none) (hoi : xp_oi.any (fun q => q.1 == xp_own mid && q.2.1 == k) = true) : ev_R X d mid pc L (.ref a :: st) g Q ↔ ev_rm st 8 ∧ ev_R X d mid (pc + 3) L st g Q := by
  by_cases hr : (st.map fun v => v.category).sum ≤ 8
  · rw [ev_stp hd rfl rfl (by simp only [xo_inv, hc]) (by simp only [xo_stp, hoi, xo_r1, if_true]; rw [if_pos hr])]
    exact ⟨fun z => ⟨hr, z⟩, fun z => z.2⟩
  · rw [ev_stuck hd rfl rfl (by simp only [xo_inv, hc]) (by simp only [xo_stp, hoi, xo_r1, if_true]; rw [if_neg hr])]
    exact ⟨False.elim, fun z => hr z.1⟩
theorem ev_math {k w : Nat} {x y : Int32} (hd : decode (xp_code mid) pc = .ok (.invokestatic k, 3)) (hc : xp_call (xp_own mid) k = none) (hm : xp_math (xp_own mid) k = some w) : ev_R X d mid pc L (.int y :: .int x :: st) g Q ↔ ev_rm st 8 ∧ ev_R X d mid (pc + 3) L (.int (if w = 0 then (if y < x then y else x) else (if x < y then y else x)) :: st) g Q := by
  by_cases hr : (st.map fun v => v.category).sum ≤ 8
  · rw [ev_stp hd rfl rfl (by simp only [xo_inv, hc]) (by simp only [xo_stp, hm, xo_i2]; rw [if_pos hr])]
    exact ⟨fun z => ⟨hr, z⟩, fun z => z.2⟩
  · rw [ev_stuck hd rfl rfl (by simp only [xo_inv, hc]) (by simp only [xo_stp, hm, xo_i2]; rw [if_neg hr])]
    exact ⟨False.elim, fun z => hr z.1⟩
theorem ev_acopy {k a b : Nat} {sp dp n : Int32} (hd : decode (xp_code mid) pc = .ok (.invokestatic k, 3)) (hc : xp_call (xp_own mid) k = none) (hm : xp_math (xp_own mid) k = none) (ha : xp_ac.contains (xp_own mid, k) = true) : ev_R X d mid pc L (.int n :: .int dp :: .ref a :: .int sp :: .ref b :: st) g Q ↔ ev_rm st 8 ∧ ev_ac g b sp a dp n (fun g1 => ev_R X d mid (pc + 3) L st g1 Q) := by
  have hs : xo_stp X mid (.invokestatic k) pc L (.int n :: .int dp :: .ref a :: .int sp :: .ref b :: st) g = (match g.1 b, g.1 a with
        | some (.inr (.int, (n0, .inl f))), some (.inr (.int, (n1, .inl h))) => if ¬ sp < 0 ∧ ¬ dp < 0 ∧ ¬ n < 0 ∧ sp.toNatClampNeg + n.toNatClampNeg ≤ n0 ∧ dp.toNatClampNeg + n.toNatClampNeg ≤ n1 ∧ (st.map fun v => v.category).sum ≤ 8 then some (pc + 3, L, st, xo_set g a (.inr (.int, (n1, .inl (va_cpy f h sp.toNatClampNeg dp.toNatClampNeg n.toNatClampNeg))))) else none
        | _, _ => none) := by simp only [xo_stp, hm, ha, if_true]; rfl
  unfold ev_ac
  split
  · rename_i n0 f n1 h hb hA
    rw [hb, hA] at hs
    dsimp only at hs
    by_cases hq : ¬ sp < 0 ∧ ¬ dp < 0 ∧ ¬ n < 0 ∧ sp.toNatClampNeg + n.toNatClampNeg ≤ n0 ∧ dp.toNatClampNeg + n.toNatClampNeg ≤ n1 ∧ (st.map fun v => v.category).sum ≤ 8
    · rw [if_pos hq] at hs
      rw [ev_stp hd rfl rfl (by simp only [xo_inv, hc]) hs]
      exact ⟨fun z => ⟨hq.2.2.2.2.2, ⟨hq.1, hq.2.1, hq.2.2.1, hq.2.2.2.1, hq.2.2.2.2.1⟩, z⟩, fun z => z.2.2⟩
    · rw [if_neg hq] at hs
      rw [ev_stuck hd rfl rfl (by simp only [xo_inv, hc]) hs]
      exact ⟨False.elim, fun z => hq ⟨z.2.1.1, z.2.1.2.1, z.2.1.2.2.1, z.2.1.2.2.2.1, z.2.1.2.2.2.2, z.1⟩⟩
  · rename_i hn
    rw [ev_stuck hd rfl rfl (by simp only [xo_inv, hc])]
    · exact ⟨False.elim, fun z => z.2⟩
    · rw [hs]
      split
      · rename_i h1 h2
        exact absurd h2 (hn _ _ _ _ h1)
      · rfl
theorem ev_aastore {a x : Nat} {i : Int32} (hd : decode (xp_code mid) pc = .ok (.aastore, 1)) : ev_R X d mid pc L (.ref x :: .int i :: .ref a :: st) g Q ↔ ev_qs g a i x (fun g1 => ev_R X d mid (pc + 1) L st g1 Q) := by
  unfold ev_qs
  split
  · rename_i C n f ci F h1 h2
    cases ho : (xo_out i n || !(ci == 1) || !(C == "DilemmaProver$Equivalence")) with
    | true =>
      rw [ev_stuck hd rfl rfl rfl (by simp only [xo_stp, xo_rir, h1, h2, ho, cond_true])]
      simp
    | false =>
      rw [ev_stp hd rfl rfl rfl (by simp only [xo_stp, xo_rir, h1, h2, ho, cond_false]; rfl)]
      simp
  · rename_i hn
    rw [ev_stuck hd rfl rfl rfl]
    simp only [xo_stp, xo_rir]
theorem ev_new {k ci : Nat} (hd : decode (xp_code mid) pc = .ok (.new k, 3)) (hn : xp_new (xp_own mid) k = some ci) : ev_R X d mid pc L st g Q ↔ ev_R X d mid (pc + 3) L (.ref g.2.1 :: st) (xo_push g (.inl (ci, fun j => xo_df (xp_ty ci j))) (xp_N ci)) Q := ev_s4 hd rfl rfl rfl (by simp only [xo_stp, hn])
theorem ev_naI {n : Int32} (hd : decode (xp_code mid) pc = .ok (.newarray .int, 2)) : ev_R X d mid pc L (.int n :: st) g Q ↔ (¬ (n < 0 ∨ 100000 < n.toNatClampNeg)) ∧ ev_R X d mid (pc + 2) L (.ref g.2.1 :: st) (xo_push g (.inr (.int, (n.toNatClampNeg, .inl (fun _ => 0)))) n.toNatClampNeg) Q := by
  by_cases h : n < 0 ∨ 100000 < n.toNatClampNeg
  · rw [ev_stuck hd rfl rfl rfl (by simp only [xo_stp, xo_i1]; rw [if_pos h])]
    simp [h]
  · rw [ev_stp hd rfl rfl rfl (by simp only [xo_stp, xo_i1]; rw [if_neg h])]
    simp [h]
theorem ev_naZ {n : Int32} (hd : decode (xp_code mid) pc = .ok (.newarray .boolean, 2)) : ev_R X d mid pc L (.int n :: st) g Q ↔ (¬ (n < 0 ∨ 100000 < n.toNatClampNeg)) ∧ ev_R X d mid (pc + 2) L (.ref g.2.1 :: st) (xo_push g (.inr (.boolean, (n.toNatClampNeg, .inl (fun _ => 0)))) n.toNatClampNeg) Q := by
  by_cases h : n < 0 ∨ 100000 < n.toNatClampNeg
  · rw [ev_stuck hd rfl rfl rfl (by simp only [xo_stp, xo_i1]; rw [if_pos h])]
    simp [h]
  · rw [ev_stp hd rfl rfl rfl (by simp only [xo_stp, xo_i1]; rw [if_neg h])]
    simp [h]
theorem ev_naB {n : Int32} (hd : decode (xp_code mid) pc = .ok (.newarray .byte, 2)) : ev_R X d mid pc L (.int n :: st) g Q ↔ (¬ (n < 0 ∨ 100000 < n.toNatClampNeg)) ∧ ev_R X d mid (pc + 2) L (.ref g.2.1 :: st) (xo_push g (.inr (.byte, (n.toNatClampNeg, .inl (fun _ => 0)))) n.toNatClampNeg) Q := by
  by_cases h : n < 0 ∨ 100000 < n.toNatClampNeg
  · rw [ev_stuck hd rfl rfl rfl (by simp only [xo_stp, xo_i1]; rw [if_pos h])]
    simp [h]
  · rw [ev_stp hd rfl rfl rfl (by simp only [xo_stp, xo_i1]; rw [if_neg h])]
    simp [h]
theorem ev_naL {n : Int32} (hd : decode (xp_code mid) pc = .ok (.newarray .long, 2)) : ev_R X d mid pc L (.int n :: st) g Q ↔ (¬ (n < 0 ∨ 100000 < n.toNatClampNeg)) ∧ ev_R X d mid (pc + 2) L (.ref g.2.1 :: st) (xo_push g (.inr (.long, (n.toNatClampNeg, .inr (.inl (fun _ => 0))))) n.toNatClampNeg) Q := by
  by_cases h : n < 0 ∨ 100000 < n.toNatClampNeg
  · rw [ev_stuck hd rfl rfl rfl (by simp only [xo_stp, xo_i1]; rw [if_pos h])]
    simp [h]
  · rw [ev_stp hd rfl rfl rfl (by simp only [xo_stp, xo_i1]; rw [if_neg h])]
    simp [h]
theorem ev_anew {k : Nat} {n : Int32} (hd : decode (xp_code mid) pc = .ok (.anewarray k, 3)) (hn : xp_new (xp_own mid) k = some 1) : ev_R X d mid pc L (.int n :: st) g Q ↔ (¬ (n < 0 ∨ 100000 < n.toNatClampNeg)) ∧ ev_R X d mid (pc + 3) L (.ref g.2.1 :: st) (xo_push g (.inr (.object "DilemmaProver$Equivalence", (n.toNatClampNeg, .inr (.inr (.inr (.inr (fun _ => none))))))) n.toNatClampNeg) Q := by
  by_cases h : n < 0 ∨ 100000 < n.toNatClampNeg
  · rw [ev_stuck hd rfl rfl rfl (by simp only [xo_stp, xo_i1]; rw [if_pos h])]
    simp [h]
  · rw [ev_stp hd rfl rfl rfl (by simp only [xo_stp, xo_i1, hn]; rw [if_neg h]; rfl)]
    simp [h]
theorem ev_ldcs {k q : Nat} (hd : decode (xp_code mid) pc = .ok (.ldc k, 2)) (hk : xo_ks (xp_own mid) k = some q) : ev_R X d mid pc L st g Q ↔ ev_R X d mid (pc + 2) L (.ref (X.2.2.2.2.2 q) :: st) g Q := ev_s4 hd rfl rfl rfl (by simp only [xo_stp, hk])
theorem ev_ldc2 {k : Nat} {v : Int64} (hd : decode (xp_code mid) pc = .ok (.ldc2_w k, 3)) (hk : xo_kl (xp_own mid) k = some v) : ev_R X d mid pc L st g Q ↔ ev_R X d mid (pc + 3) L (.long v :: st) g Q := ev_s4 hd rfl rfl rfl (by simp only [xo_stp, hk])
theorem ev_gst {k q : Nat} (hd : decode (xp_code mid) pc = .ok (.getstatic k, 3)) (hk : xo_gs (xp_own mid) k = some q) : ev_R X d mid pc L st g Q ↔ ev_R X d mid (pc + 3) L (X.2.2.2.2.1 q :: st) g Q := ev_s4 hd rfl rfl rfl (by simp only [xo_stp, hk])
theorem ev_sget {a k j : Nat} (hd : decode (xp_code mid) pc = .ok (.getfield k, 3)) (hf : xp_field (xp_own mid) k = none) (hs : xo_sf (xp_own mid) k = some j) : ev_R X d mid pc L (.ref a :: st) g Q ↔ ev_sg X g a j (fun v => ev_R X d mid (pc + 3) L (v :: st) g Q) := by
  unfold ev_sg
  split
  · rename_i c F h1 h2
    rw [ev_stp hd rfl rfl rfl (by simp only [xo_stp, xo_r1, hf, hs, h1, h2]; rfl)]
  · rename_i hn
    rw [ev_stuck hd rfl rfl rfl]
    simp only [xo_stp, xo_r1, hf, hs]
    split
    · rename_i h1 h2 h3
      exact absurd h3 (hn _ _ h2)
    · rfl
theorem ev_stl {i : Instr} {len k : Nat} {v : Value} {st' : List Value} {n : Nat} (hd : decode (xp_code mid) pc = .ok (i, len)) (hl : xo_len i len = true) (hr : xo_rt mid i st = none) (hi : xo_inv X mid i st g = none) (hs : xo_stp X mid i pc L st g = xo_stl L k v n st' g) (hk : k + 1 < L.length) (hn : xo_nl L k = true) : ev_R X d mid pc L st g Q ↔ ev_R X d mid n ((L.set k (some v)).set (k + 1) none) st' g Q := by
  rw [ev_stp hd hl hr hi (by rw [hs]; simp only [xo_stl, hk, hn, decide_true, Bool.and_self, if_true]; rfl)]
theorem ev_retb {x : Int32} (hd : decode (xp_code mid) pc = .ok (.ireturn, 1)) (hr : xp_rt mid = some .byte) : ev_R X d mid pc L [.int x] g Q ↔ x.toInt8.toInt32 = x ∧ Q (some (.int x)) g := by
  by_cases hx : x.toInt8.toInt32 = x
  · rw [ev_ret hd rfl (by simp only [xo_rt, hr, if_pos hx]; rfl)]
    simp [hx]
  · rw [ev_stuck hd rfl (by simp only [xo_rt, hr, if_neg hx]) rfl rfl]
    simp [hx]
theorem ev_retc {x : Int32} (hd : decode (xp_code mid) pc = .ok (.ireturn, 1)) (hr : xp_rt mid = some .char) : ev_R X d mid pc L [.int x] g Q ↔ (x.toUInt32 % 65536).toInt32 = x ∧ Q (some (.int x)) g := by
  by_cases hx : (x.toUInt32 % 65536).toInt32 = x
  · rw [ev_ret hd rfl (by simp only [xo_rt, hr, if_pos hx]; rfl)]
    simp [hx]
  · rw [ev_stuck hd rfl (by simp only [xo_rt, hr, if_neg hx]) rfl rfl]
    simp [hx]
end EX
theorem ev_ldcw {X : xo_X} {d mid pc : Nat} {L : xo_L} {st : List Value} {g : xo_G} {Q : Option Value → xo_G → Prop} {k : Nat} {v : Int32} (hd : decode (xp_code mid) pc = .ok (.ldc_w k, 3)) (hk : xo_ki (xp_own mid) k = some v) : ev_R X d mid pc L st g Q ↔ ev_R X d mid (pc + 3) L (.int v :: st) g Q := ev_s4 hd rfl rfl rfl (by simp only [xo_stp, hk])
theorem ev_mna {X : xo_X} {d mid pc : Nat} {L : xo_L} {st : List Value} {g : xo_G} {Q : Option Value → xo_G → Prop} {n m : Int32} (hd : decode (xp_code mid) pc = .ok (.multianewarray 24 2, 4)) (ho : xp_own mid = 0) (h1 : ¬ m < 0 ∧ ¬ n < 0 ∧ n.toNatClampNeg ≤ 100000 ∧ m.toNatClampNeg ≤ 100000) : ev_R X d mid pc L (.int m :: .int n :: st) g Q ↔ ev_R X d mid (pc + 4) L (.ref g.2.1 :: st) (xo_grid g n.toNatClampNeg m.toNatClampNeg) Q := ev_s4 hd rfl rfl rfl (by simp only [xo_stp]; rw [if_pos ⟨ho, trivial, trivial, h1⟩])
