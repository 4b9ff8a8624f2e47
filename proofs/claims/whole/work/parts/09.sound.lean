/-! A RUN of the abstract machine is a run of the machine -/
set_option maxHeartbeats 4000000 in
theorem xo_stp_mono {X : xo_X} {mid : Nat} {i : Instr} {pc : Nat} {L : xo_L} {st : List Value} {g : xo_G} {k : xo_K} (h : xo_stp X mid i pc L st g = some k) : g.2.1 ≤ k.2.2.2.2.1 ∧ g.2.2 ≤ k.2.2.2.2.2 := by
  unfold xo_stp at h
  split at h
  all_goals try simp only [xo_i1, xo_i2, xo_l1, xo_l2, xo_li, xo_r1, xo_ri1, xo_rii, xo_ril, xo_rir, xo_sto, xo_stl, xo_jmp, xo_bra, Bool.cond_eq_ite] at h
  all_goals repeat' split at h
  all_goals first
    | (cases h; exact ⟨Nat.le_refl _, Nat.le_refl _⟩)
    | (cases h; exact ⟨Nat.le_succ _, Nat.le_add_right _ _⟩)
    | (cases h; dsimp only [xo_grid]; exact ⟨by omega, by omega⟩)
    | cases h
theorem xo_exec_mono {X : xo_X} : ∀ (n d mid pc : Nat) (L : xo_L) (st : List Value) (g : xo_G) (r : Option Value) (g' : xo_G), xo_exec X n d mid pc L st g = some (r, g') → g.2.1 ≤ g'.2.1 ∧ g.2.2 ≤ g'.2.2 := by
  intro n
  induction n with
  | zero => intro d mid pc L st g r g' h; simp [xo_exec] at h
  | succ n ih =>
    intro d mid pc L st g r g' h
    unfold xo_exec at h
    split at h
    · rw [Bool.cond_eq_ite] at h
      split at h
      · split at h
        · cases h
          exact ⟨Nat.le_refl _, Nat.le_refl _⟩
        · split at h
          · split at h
            · cases h
            · split at h
              · split at h
                · rename_i h1
                  obtain ⟨a1, a2⟩ := ih _ _ _ _ _ _ _ _ h1
                  obtain ⟨b1, b2⟩ := ih _ _ _ _ _ _ _ _ h
                  exact ⟨Nat.le_trans a1 b1, Nat.le_trans a2 b2⟩
                · cases h
              · cases h
          · split at h
            · rename_i h1
              obtain ⟨a1, a2⟩ := xo_stp_mono h1
              obtain ⟨b1, b2⟩ := ih _ _ _ _ _ _ _ _ h
              exact ⟨Nat.le_trans a1 b1, Nat.le_trans a2 b2⟩
            · cases h
      · cases h
    · cases h
theorem xo_stp_len {X : xo_X} {mid : Nat} {i : Instr} {pc : Nat} {L : xo_L} {st : List Value} {g : xo_G} {k : xo_K} (h : xo_stp X mid i pc L st g = some k) : k.2.1.length = L.length := by
  unfold xo_stp at h
  split at h
  all_goals try simp only [xo_i1, xo_i2, xo_l1, xo_l2, xo_li, xo_r1, xo_ri1, xo_rii, xo_ril, xo_rir, xo_sto, xo_stl, xo_jmp, xo_bra, Bool.cond_eq_ite] at h
  all_goals repeat' split at h
  all_goals first
    | (cases h; rfl)
    | (cases h; simp)
    | cases h
theorem xp_good {ws : List Cond} (h : ∀ w ∈ ws, w ∈ xp_tw) : GoodIn xp_tw ws := fun w hw => ⟨h w hw, good_of_word (List.mem_filter.mp (h w hw)).2⟩
theorem xp_ws_in {q : Nat} (h : xf_W q) : ∀ w ∈ xp_ws q, w ∈ xp_tw := fun w hw => by
  rcases List.mem_cons.mp hw with rfl | hw
  · exact h.1
  · exact hw
section XB
variable {cy : FieldType → ClassId} {D : va_G} {X : xo_X} {p : Program} {l : Launch} {e : Env} {R : Room} {s : State} {m : MethodId} {args : Array Value} {below : List Frame} {meth : Method} {c : Code} {mid : Nat} {A : Nat → Prop}
/-- what a callee leaves -/
def xo_Q (cy : FieldType → ClassId) (D : va_G) (r : Option Value) (g' : xo_G) (B : Nat → Prop) : Array Value → State → Outcome → State → Prop := fun _ st o t => o = .returned r ∧ (∃ ws', xo_W cy g'.1 ws' ∧ va_P D vwCl ws' t.heap ∧ va_D B ws' ∧ t.heap.size = g'.2.1) ∧ va_F B st t
def xo_Pc (cy : FieldType → ClassId) (D : va_G) (X : xo_X) (ws : va_W) (as : List Value) (g : xo_G) : Array Value → State → Prop := va_Pc as (fun U => U.heap.size = g.2.1 ∧ va_P D vwCl ws U.heap ∧ va_D (fun _ => True) ws ∧ xe_E cy D X (va_A ws g.2.1) U U.heap)
theorem xo_blind {ws : va_W} {as : List Value} {g : xo_G} : FrameBlind (xo_Pc cy D X ws as g) := fun a U f mk h => by
  obtain ⟨h0, h1, h2, h3, h4⟩ := h
  exact ⟨h0, h1, h2, h3, xe_E.same (U := U.calling f mk a) h4 rfl⟩
theorem xo_after {ws : va_W} {g g' : xo_G} {r : Option Value} {as : Array Value} {mc ms pc : Nat} {H : Heap} {locs : List Loc} {cells slots : Nat} {Q : State → Prop} {ls : Array Slot} {st0 rest : List Value} {B : Nat → Prop}
    (hr : va_Run p l e R s m args below meth c H locs cells slots mc ms (F0 m pc ls st0) rest (xo_Q cy D r g' B as) B) (hS : va_S A s.heap H locs) (hB : ∀ q, B q → A q) (w6 : s.heap.size + (cells + mc) = g'.2.1)
    (kk : ∀ (H1 : Heap) (locs1 : List Loc), xo_wd cy D s A g' H1 locs1 (cells + mc) → W p l e R s m args below meth c H1 locs1 (cells + mc) (slots + ms) Q (F0 m (pc + 3) ls (r.toList ++ rest))) : W p l e R s m args below meth c H locs cells slots Q (F0 m pc ls st0) := by
  intro T hT Xs
  obtain ⟨v, st₀, t, T', Lo, h0, X', hLo, e1, e2, ⟨hv, ⟨ws', w1, w2, w3, w5⟩, hz, hk⟩, st⟩ := hr T hT Xs
  have hv : v = r := by injection hv
  subst hv
  rw [h0] at hz hk
  obtain ⟨t2, a1, b1⟩ := kk T'.heap (locs ++ Lo) ⟨ws', w1, by rw [e1]; exact w2, w3.weaken (fun _ _ _ h => hB _ h), ⟨Nat.le_trans hS.1 (by rw [e1]; exact hz), fun q g1 g2 => by
      rw [e1, hk q (Nat.lt_of_lt_of_le g1 hS.1) (fun z => g2 (hB q z))]
      exact hS.2.1 q g1 g2, fun q hq => by
      rcases List.mem_append.mp hq with h | h
      · exact hS.2.2 q h
      · exact hB _ (hLo q h)⟩, by rw [e1]; exact w5, w6⟩ T' rfl X'
  exact ⟨t2, st t2 a1, b1⟩
end XB
def xo_rm (d mc ms : Nat) : Room := { frames := d + 1, cells := mc, slots := ms, locals := 64 * (d + 1) }
/-- soundness at one fuel, of a method's points -/
def xo_Snd (cy : FieldType → ClassId) (D : va_G) (X : xo_X) (l : Launch) (n : Nat) : Prop := ∀ (d mid pc : Nat) (L : xo_L) (st : List Value) (g : xo_G) (r : Option Value) (g' : xo_G), xo_exec X n d mid pc L st g = some (r, g') → ∀ {p : Program} {e : Env} {R : Room} {s : State} {m : MethodId} {args : Array Value} {below : List Frame} {meth : Method} {c : Code} {A : Nat → Prop}, xo_cx cy D X p R s m args meth c mid A → d + 1 ≤ R.frames → 64 * (d + 1) ≤ R.locals → ∀ {H : Heap} {locs : List Loc} {cells slots : Nat} {Q : State → Prop} {ls : Array Slot}, xo_wd cy D s A g H locs cells → xo_lh ls L → L.length = xp_ml mid → cells + g'.2.1 ≤ R.cells + g.2.1 → slots + g'.2.2 ≤ R.slots + g.2.2 →
  (∀ (H1 : Heap) (locs1 : List Loc) (cells1 slots1 pc1 : Nat) (ls1 : Array Slot) (ins : Instr), decode (xp_code mid) pc1 = .ok (ins, 1) → xo_rt mid ins r.toList = some r → xo_wd cy D s A g' H1 locs1 cells1 → slots1 + g.2.2 = slots + g'.2.2 → W p l e R s m args below meth c H1 locs1 cells1 slots1 Q (F0 m pc1 ls1 r.toList)) → W p l e R s m args below meth c H locs cells slots Q (F0 m pc ls st)
theorem xo_rt_stack {mid : Nat} {i : Instr} {st : List Value} {r : Option Value} (h : xo_rt mid i st = some r) : st = r.toList := by
  unfold xo_rt at h
  split at h
  · split at h
    · cases h; rfl
    · split at h
      · cases h; rfl
      · cases h
    · split at h
      · cases h; rfl
      · cases h
    · split at h
      · cases h; rfl
      · cases h
    · cases h
  · split at h
    · cases h; rfl
    · cases h
  · split at h
    · cases h; rfl
    · cases h
  · cases h
set_option maxHeartbeats 4000000 in
/-- the contract of a method out of a run of its body -/
theorem xo_met {cy : FieldType → ClassId} {D : va_G} {X : xo_X} {l : Launch} {n : Nat} (ih : xo_Snd cy D X l n) {d q : Nat} {as : List Value} {g g' : xo_G} {r : Option Value} (h0 : 0 < q) (hq : q < 179) (hlen : (xo_sl as).length ≤ xp_ml q) (hx : xo_exec X n d q 0 (xo_ent (xp_ml q) as) [] g = some (r, g')) {ws : va_W} (hw : xo_W cy g.1 ws) :
    Met l (xp_nm q) (xp_ws q) (xo_rm d (g'.2.1 - g.2.1) (g'.2.2 - g.2.2)) (xo_Pc cy D X ws as g) (xo_Q cy D r g' (va_A ws g.2.1)) (g'.2.1 - g.2.1) (g'.2.2 - g.2.2) (va_A ws g.2.1) := by
  have hv := xf_v h0 hq
  obtain ⟨m1, m2⟩ := xo_exec_mono _ _ _ _ _ _ _ _ _ hx
  refine Met.ofW (cc := xp_code q) (maxL := xp_ml q) (ret := xp_rt q) hv.2.1 rfl ?_
  intro p e s m args below meth c s₁ B hml hP
  obtain ⟨ha, hsz, hPw, hDw, hE⟩ := hP
  subst ha
  have hr := B.returns
  have hts : ∀ w ∈ xp_tw, w.before as.toArray s = true := fun w h => atoms_spec (ws := xp_ws q) B.pre w (List.mem_cons_of_mem _ h)
  have hown : s.vm.findClass (xp_R (xp_own q)) = some m.cls := by
    rw [hv.2.2.1]
    exact findClass_of_methodNamed B.named
  have hlocks := B.notSynchronized
  rw [lg_entry_eq]
  refine ih d q 0 _ [] g r g' hx (A := va_A ws g.2.1) ⟨B.exec, B.bytes, hml, hown, hts, fun z h => Or.inr (by rw [← hsz]; exact h), hE, fun hn => by rw [← hn]; exact (name_of_methodNamed B.named B.method).1, Nat.le_add_left 1 d, by show 64 ≤ 64 * (d + 1); omega⟩ (Nat.le_refl _) (Nat.le_refl _) (cells := 0) (slots := 0) ⟨ws, hw, hPw, hDw.self, va_S.rf, hsz, hsz⟩ (xo_lh_entry hlen) (by simp [xo_ent]; omega) (by show 0 + g'.2.1 ≤ (g'.2.1 - g.2.1) + g.2.1; omega) (by show 0 + g'.2.2 ≤ (g'.2.2 - g.2.2) + g.2.2; omega) ?_
  intro H1 locs1 cells1 slots1 pc1 ls1 ins hd hrt hw1 hsl
  obtain ⟨ws', w1, w2, w3, w4, w5, w6⟩ := hw1
  have hc : cells1 = g'.2.1 - g.2.1 := by omega
  have hs : slots1 = g'.2.2 - g.2.2 := by omega
  subst hc; subst hs
  have hQ : ∀ t : State, t.heap = H1 → s.WarmedH t.vm → xo_Q cy D r g' (va_A ws g.2.1) as.toArray s (.returned r) t := fun t ht _ => ⟨rfl, ⟨ws', w1, by rw [ht]; exact w2, w3, by rw [ht]; exact w5⟩, w4.F ht⟩
  unfold xo_rt at hrt
  split at hrt
  · split at hrt
    · rename_i e1 e2
      cases hrt
      rw [e2] at hr
      exact W.iret B.exec B.bytes hr hQ w4.2.2 hd
    · rename_i e1 e2
      split at hrt
      · rename_i hz
        cases hrt
        rw [e2] at hr
        exact W.zret B.exec B.bytes hr (by rcases hz with rfl | rfl <;> rfl) hQ w4.2.2 hd
      · cases hrt
    · rename_i e1 e2
      split at hrt
      · rename_i hz
        cases hrt
        rw [e2] at hr
        exact W.zret B.exec B.bytes hr (by simp [narrow, hz]) hQ w4.2.2 hd
      · cases hrt
    · rename_i e1 e2
      split at hrt
      · rename_i hz
        cases hrt
        rw [e2] at hr
        exact W.zret B.exec B.bytes hr (by simp [narrow]; exact hz) hQ w4.2.2 hd
      · cases hrt
    · cases hrt
  · split at hrt
    · rename_i e1 e2
      cases hrt
      rw [e2] at hr
      exact W.lret B.exec B.bytes hr hQ w4.2.2 hd
    · cases hrt
  · split at hrt
    · rename_i e1 e2
      cases hrt
      rw [e2] at hr
      exact W.vret B.exec B.bytes hr hQ w4.2.2 hd
    · cases hrt
  · cases hrt
