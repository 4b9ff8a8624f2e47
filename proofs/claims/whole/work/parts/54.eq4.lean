/-! A SATURATION holds all that was held -/
theorem sp_sb_rf (n : Nat) (E : sp_E) : sp_sb n E E := fun _ h => h
theorem sp_sat0_sb {n : Nat} {kd o1 o2 : Nat → Nat} (hw : sp_wf n kd o1 o2) (h0 : 1 ≤ n) : ∀ (k : Nat) (E : sp_E) (r : Nat), sp_va n E → sp_sb n E (sp_sat0 n kd o1 o2 k E r).1 := by
  intro k
  induction k with
  | zero => intro E r _; exact sp_sb_rf n E
  | succ k ih =>
    intro E r hE
    obtain ⟨-, -, a, b⟩ := cs_rd_eq hw h0 hE
    unfold sp_sat0
    split
    · exact sp_sb_rf n E
    · split
      · exact sp_sb_tr b (ih _ _ a)
      · exact b
theorem sp_st_sb {n ms : Nat} {kd o1 o2 : Nat → Nat} (hw : sp_wf n kd o1 o2) (h0 : 1 ≤ n) {E : sp_E} (t : sp_T) (hE : sp_va n E) : sp_sb n E (sp_st n kd o1 o2 ms E t).2.1 := by
  unfold sp_st
  split
  · exact sp_sb_rf n E
  · exact sp_sat0_sb hw h0 _ _ _ hE
def sp_gs2 (n ms : Nat) (sat : sp_E → sp_T → sp_Z) : Prop := ∀ E t, sp_ok n ms E t → sp_sb n E (sat E t).2.1
theorem sp_ps_sb {n ms : Nat} {sat : sp_E → sp_T → sp_Z} (hg : sp_gd n ms sat) (hs : sp_gs2 n ms sat) (h0 : 1 ≤ n) : ∀ (m v : Nat) (E : sp_E) (t : sp_T), v + m = n → sp_ok n ms E t → E.2 = false → sp_sb n E (sp_ps sat m v E t).2.1 := by
  intro m
  induction m with
  | zero => intro v E t _ _ _; exact sp_sb_rf n E
  | succ m ih =>
    intro v E t hv hE hE0
    unfold sp_ps
    split
    · have o1 := sp_ok_j (a := 2 * v) (b := 0) hE hE.2.1 (by omega) (by omega)
      have g1 := hg _ _ o1
      have b1 := sp_sb_tr (sp_sb_j hE.2.2 (by omega) (by omega)) (hs _ _ o1)
      dsimp only
      generalize sat (sp_j E (2 * v) 0) t = z1 at g1 b1
      split
      · exact sp_sb_rf n E
      · have o2 := sp_ok_j (t2 := sp_tb z1.2.2 z1.2.1.2) (a := 2 * v) (b := 1) hE g1.2.1 (by omega) (by omega)
        have g2 := hg _ _ o2
        have b2 := sp_sb_tr (sp_sb_j hE.2.2 (by omega) (by omega)) (hs _ _ o2)
        generalize sat (sp_j E (2 * v) 1) (sp_tb z1.2.2 z1.2.1.2) = z2 at g2 b2
        split
        · exact sp_sb_rf n E
        · have b3 := sp_sb_ag hE.2.2 g1.2.2 g2.2.2 hE0 b1 b2
          split
          · exact b3
          · rename_i hc
            exact sp_sb_tr b3 (ih (v + 1) _ _ (by omega) (sp_ok_ag hE g1 g2 g2.2.1) (by simpa using hc))
    · exact ih (v + 1) E t (by omega) hE hE0
theorem sp_pp_sb {n ms : Nat} {stp sat : sp_E → sp_T → sp_Z} (h1 : sp_gd n ms stp) (h2 : sp_gs2 n ms stp) (hg : sp_gd n ms sat) (hs : sp_gs2 n ms sat) (h0 : 1 ≤ n) : ∀ (q : Nat) (E : sp_E) (t : sp_T), sp_ok n ms E t → E.2 = false → sp_sb n E (sp_pp n stp sat q E t).2.1 := by
  intro q
  induction q with
  | zero => intro E t _ _; exact sp_sb_rf n E
  | succ q ih =>
    intro E t hE hE0
    unfold sp_pp
    have o1 : sp_ok n ms E (t.1, t.2.1, t.2.2.1 + 1, t.2.2.2) := hE
    have g1 := sp_ps_gd hg h0 (n - 1) 1 E _ (by omega) o1
    have b1 := sp_ps_sb hg hs h0 (n - 1) 1 E _ (by omega) o1 hE0
    dsimp only
    generalize sp_ps sat (n - 1) 1 E (t.1, t.2.1, t.2.2.1 + 1, t.2.2.2) = z at g1 b1
    split
    · exact b1
    · split
      · have g2 := h1 _ _ g1
        have b2 := h2 _ _ g1
        generalize stp z.2.1 z.2.2 = y at g2 b2
        split
        · exact sp_sb_tr b1 b2
        · rename_i hc
          exact sp_sb_tr (sp_sb_tr b1 b2) (ih _ _ g2 (by
            cases hh : y.2.1.2 with
            | false => rfl
            | true => exact absurd (Or.inr hh) hc))
      · exact b1
theorem sp_sk_sb {n ms : Nat} {kd o1 o2 : Nat → Nat} (hw : sp_wf n kd o1 o2) (h0 : 1 ≤ n) : ∀ k : Nat, sp_gs2 n ms (sp_sk n kd o1 o2 ms k) := by
  intro k
  induction k with
  | zero => exact fun E t h => sp_st_sb hw h0 t h.2.2
  | succ k ih =>
    intro E t hE
    unfold sp_sk
    have g1 := sp_st_gd (ms := ms) hw h0 E t hE
    have b1 := sp_st_sb (ms := ms) hw h0 t hE.2.2
    dsimp only
    generalize sp_st n kd o1 o2 ms E t = y at g1 b1
    split
    · exact b1
    · rename_i hc
      exact sp_sb_tr b1 (sp_pp_sb (sp_st_gd hw h0) (fun E t h => sp_st_sb hw h0 t h.2.2) (sp_sk_gd hw h0 k) ih h0 _ _ _ g1 (by
        cases hh : y.2.1.2 with
        | false => rfl
        | true => exact absurd (Or.inr hh) hc))
/-- the class of TRUE is one: there is a class -/
theorem sp_cn_pos {n : Nat} {E : sp_E} (h : sp_va n E) (h0 : 1 ≤ n) : 1 ≤ sp_cn n E := by
  unfold sp_cn
  obtain ⟨m, hm⟩ : ∃ m, 2 * n = m + 1 := ⟨2 * n - 1, by omega⟩
  rw [hm]
  unfold sp_ct
  rw [(sp_va_01 h h0).1]
  simp
/-- v is free, as the class asks it -/
theorem cs_fr {n v : Nat} {E : sp_E} (h : sp_va n E) (h0 : 1 ≤ n) : sp_fr E v ↔ 1 < E.1 (2 * v) := by
  unfold sp_fr
  rw [(sp_va_01 h h0).1, (sp_va_01 h h0).2]
  omega
/-- what is spent is no contradiction -/
theorem sp_ps_nc {sat : sp_E → sp_T → sp_Z} : ∀ (m v : Nat) (E : sp_E) (t : sp_T), E.2 = false → (sp_ps sat m v E t).1 = true → (sp_ps sat m v E t).2.1.2 = false := by
  intro m
  induction m with
  | zero => intro v E t h h2; exact h
  | succ m ih =>
    intro v E t h h2
    unfold sp_ps at h2 ⊢
    by_cases c : sp_fr E v
    · rw [if_pos c] at h2 ⊢
      dsimp only at h2 ⊢
      generalize sat (sp_j E (2 * v) 0) t = z1 at h2 ⊢
      by_cases c1 : z1.1 = true
      · rw [if_pos c1]; exact h
      · rw [if_neg c1] at h2 ⊢
        generalize sat (sp_j E (2 * v) 1) (sp_tb z1.2.2 z1.2.1.2) = z2 at h2 ⊢
        by_cases c2 : z2.1 = true
        · rw [if_pos c2]; exact h
        · rw [if_neg c2] at h2 ⊢
          by_cases c3 : (sp_ag E z1.2.1 z2.2.1).2 = true
          · rw [if_pos c3] at h2; cases h2
          · rw [if_neg c3] at h2 ⊢
            exact ih _ _ _ (by simpa using c3) h2
    · rw [if_neg c] at h2 ⊢
      exact ih _ _ _ h h2
theorem sp_pp_nc {n : Nat} {stp sat : sp_E → sp_T → sp_Z} (hst : ∀ E t, (stp E t).1 = true → (stp E t).2.1 = E) : ∀ (q : Nat) (E : sp_E) (t : sp_T), E.2 = false → (sp_pp n stp sat q E t).1 = true → (sp_pp n stp sat q E t).2.1.2 = false := by
  intro q
  induction q with
  | zero => intro E t h h2; exact h
  | succ q ih =>
    intro E t h h2
    unfold sp_pp at h2 ⊢
    dsimp only at h2 ⊢
    have k := sp_ps_nc (sat := sat) (n - 1) 1 E (t.1, t.2.1, t.2.2.1 + 1, t.2.2.2) h
    generalize sp_ps sat (n - 1) 1 E (t.1, t.2.1, t.2.2.1 + 1, t.2.2.2) = z at h2 k ⊢
    by_cases c1 : z.1 = true ∨ z.2.1.2 = true
    · rw [if_pos c1] at h2 ⊢
      exact k h2
    · rw [if_neg c1] at h2 ⊢
      have zf : z.2.1.2 = false := by
        cases hh : z.2.1.2 with
        | false => rfl
        | true => exact absurd (Or.inr hh) c1
      by_cases c2 : sp_cn n z.2.1 < sp_cn n E
      · rw [if_pos c2] at h2 ⊢
        have hs := hst z.2.1 z.2.2
        generalize stp z.2.1 z.2.2 = y at h2 hs ⊢
        by_cases c3 : y.1 = true ∨ y.2.1.2 = true
        · rw [if_pos c3] at h2 ⊢
          rw [hs h2]; exact zf
        · rw [if_neg c3] at h2 ⊢
          exact ih _ _ (by
            cases hh : y.2.1.2 with
            | false => rfl
            | true => exact absurd (Or.inr hh) c3) h2
      · rw [if_neg c2]; exact zf
theorem sp_st_sp {n ms : Nat} {kd o1 o2 : Nat → Nat} (E : sp_E) (t : sp_T) (h : (sp_st n kd o1 o2 ms E t).1 = true) : (sp_st n kd o1 o2 ms E t).2.1 = E := by
  unfold sp_st at h ⊢
  split
  · rfl
  · rename_i c
    rw [if_neg c] at h; cases h
theorem sp_sk_nc {n ms : Nat} {kd o1 o2 : Nat → Nat} (k : Nat) (E : sp_E) (t : sp_T) (h : (sp_sk n kd o1 o2 ms k E t).1 = true) (h0 : E.2 = false) : (sp_sk n kd o1 o2 ms k E t).2.1.2 = false := by
  cases k with
  | zero =>
    unfold sp_sk at h ⊢
    rw [sp_st_sp E t h]; exact h0
  | succ k =>
    unfold sp_sk at h ⊢
    dsimp only at h ⊢
    have hs := sp_st_sp (n := n) (ms := ms) (kd := kd) (o1 := o1) (o2 := o2) E t
    generalize sp_st n kd o1 o2 ms E t = y at h hs ⊢
    by_cases c3 : y.1 = true ∨ y.2.1.2 = true
    · rw [if_pos c3] at h ⊢
      rw [hs h]; exact h0
    · rw [if_neg c3] at h ⊢
      exact sp_pp_nc (fun E t h => sp_st_sp E t h) _ _ _ (by
        cases hh : y.2.1.2 with
        | false => rfl
        | true => exact absurd (Or.inr hh) c3) h
/-- the other value of a variable -/
theorem cs_j1 {n v : Nat} {E : sp_E} (h : sp_va n E) (h0 : 1 ≤ n) (hv : v < n) : sp_eq n (sp_j E (2 * v + 1) 0) (sp_j E (2 * v) 1) := by
  refine sp_M_ext (sp_j_va h (by omega) (by omega)).1 (sp_j_va h (by omega) (by omega)).1 (fun m => ?_)
  rw [sp_M_j h (by omega) (by omega), sp_M_j h (by omega) (by omega)]
  refine and_congr_right fun hm => ?_
  have e1 := (hm.2 (2 * v) (by omega)).1
  have e2 := (hm.2 0 (by omega)).1
  rw [← cs_2t (w := v) (t := 1) (by decide)] at e1
  have e3 : (0 : Nat) ^^^ 1 = 1 := rfl
  rw [e3] at e2
  rw [e1, e2]
  cases m (2 * v) <;> cases m 0 <;> decide
/-- a free variable's join is no contradiction -/
theorem cs_jf {n v b : Nat} {E : sp_E} (h : sp_va n E) (h0 : 1 ≤ n) (hb : b < 2) (z : E.2 = false) (hf : sp_fr E v) : (sp_j E (2 * v) b).2 = false := by
  have c : b = 0 ∨ b = 1 := by omega
  have h1 : E.1 (2 * v) ≠ E.1 0 := fun w => hf (Or.inl w)
  have h2 : E.1 (2 * v) ≠ E.1 1 := fun w => hf (Or.inr w)
  unfold sp_j
  rw [z]
  rcases c with e | e
  · subst e
    rw [if_neg (by simp [h1]), if_neg (by show ¬ E.1 (2 * v) = E.1 (0 ^^^ 1); exact h2)]
  · subst e
    rw [if_neg (by simp [h2]), if_neg (by show ¬ E.1 (2 * v) = E.1 (1 ^^^ 1); exact h1)]
