/-! A SATURATION holds all that was held -/
theorem sp_sb_rf (n : Nat) (E : sp_E) : sp_sb n E E := fun _ h => h
theorem sp_sat0_sb {n : Nat} {kd o1 o2 : Nat → Nat} (hw : sp_wf n kd o1 o2) (h0 : 1 ≤ n) : ∀ (k : Nat) (E : sp_E) (r : Nat), sp_va n E → sp_sb n E (sp_sat0 n kd o1 o2 k E r).1 := by
  intro k
  induction k with
  | zero => intro E r _; exact sp_sb_rf n E
  | succ k ih =>
    intro E r hE
    obtain ⟨-, -, a, b⟩ := cs_rd_eq hw h0 hE
    unfold sp_sat0
    split
    · exact sp_sb_rf n E
    · split
      · exact sp_sb_tr b (ih _ _ a)
      · exact b
theorem sp_st_sb {n ms : Nat} {kd o1 o2 : Nat → Nat} (hw : sp_wf n kd o1 o2) (h0 : 1 ≤ n) {E : sp_E} (t : sp_T) (hE : sp_va n E) : sp_sb n E (sp_st n kd o1 o2 ms E t).2.1 := by
  unfold sp_st
  split
  · exact sp_sb_rf n E
  · exact sp_sat0_sb hw h0 _ _ _ hE
def sp_gs2 (n ms : Nat) (sat : sp_E → sp_T → sp_Z) : Prop := ∀ E t, sp_ok n ms E t → sp_sb n E (sat E t).2.1
theorem sp_ps_sb {n ms : Nat} {sat : sp_E → sp_T → sp_Z} (hg : sp_gd n ms sat) (hs : sp_gs2 n ms sat) (h0 : 1 ≤ n) : ∀ (m v : Nat) (E : sp_E) (t : sp_T), v + m = n → sp_ok n ms E t → E.2 = false → sp_sb n E (sp_ps sat m v E t).2.1 := by
  intro m
  induction m with
  | zero => intro v E t _ _ _; exact sp_sb_rf n E
  | succ m ih =>
    intro v E t hv hE hE0
    unfold sp_ps
    split
    · have o1 := sp_ok_j (a := 2 * v) (b := 0) hE hE.2.1 (by omega) (by omega)
      have g1 := hg _ _ o1
      have b1 := sp_sb_tr (sp_sb_j hE.2.2 (by omega) (by omega)) (hs _ _ o1)
      dsimp only
      generalize sat (sp_j E (2 * v) 0) t = z1 at g1 b1
      split
      · exact sp_sb_rf n E
      · have o2 := sp_ok_j (t2 := sp_tb z1.2.2 z1.2.1.2) (a := 2 * v) (b := 1) hE g1.2.1 (by omega) (by omega)
        have g2 := hg _ _ o2
        have b2 := sp_sb_tr (sp_sb_j hE.2.2 (by omega) (by omega)) (hs _ _ o2)
        generalize sat (sp_j E (2 * v) 1) (sp_tb z1.2.2 z1.2.1.2) = z2 at g2 b2
        split
        · exact sp_sb_rf n E
        · have b3 := sp_sb_ag hE.2.2 g1.2.2 g2.2.2 hE0 b1 b2
          split
          · exact b3
          · rename_i hc
            exact sp_sb_tr b3 (ih (v + 1) _ _ (by omega) (sp_ok_ag hE g1 g2 g2.2.1) (by simpa using hc))
    · exact ih (v + 1) E t (by omega) hE hE0
theorem sp_pp_sb {n ms : Nat} {stp sat : sp_E → sp_T → sp_Z} (h1 : sp_gd n ms stp) (h2 : sp_gs2 n ms stp) (hg : sp_gd n ms sat) (hs : sp_gs2 n ms sat) (h0 : 1 ≤ n) : ∀ (q : Nat) (E : sp_E) (t : sp_T), sp_ok n ms E t → E.2 = false → sp_sb n E (sp_pp n stp sat q E t).2.1 := by
  intro q
  induction q with
  | zero => intro E t _ _; exact sp_sb_rf n E
  | succ q ih =>
    intro E t hE hE0
    unfold sp_pp
    have o1 : sp_ok n ms E (t.1, t.2.1, t.2.2.1 + 1, t.2.2.2) := hE
    have g1 := sp_ps_gd hg h0 (n - 1) 1 E _ (by omega) o1
    have b1 := sp_ps_sb hg hs h0 (n - 1) 1 E _ (by omega) o1 hE0
    dsimp only
    generalize sp_ps sat (n - 1) 1 E (t.1, t.2.1, t.2.2.1 + 1, t.2.2.2) = z at g1 b1
    split
    · exact b1
    · split
      · have g2 := h1 _ _ g1
        have b2 := h2 _ _ g1
        generalize stp z.2.1 z.2.2 = y at g2 b2
        split
        · exact sp_sb_tr b1 b2
        · rename_i hc
          exact sp_sb_tr (sp_sb_tr b1 b2) (ih _ _ g2 (by
            cases hh : y.2.1.2 with
            | false => rfl
            | true => exact absurd (Or.inr hh) hc))
      · exact b1
theorem sp_sk_sb {n ms : Nat} {kd o1 o2 : Nat → Nat} (hw : sp_wf n kd o1 o2) (h0 : 1 ≤ n) : ∀ k : Nat, sp_gs2 n ms (sp_sk n kd o1 o2 ms k) := by
  intro k
  induction k with
  | zero => exact fun E t h => sp_st_sb hw h0 t h.2.2
  | succ k ih =>
    intro E t hE
    unfold sp_sk
    have g1 := sp_st_gd (ms := ms) hw h0 E t hE
    have b1 := sp_st_sb (ms := ms) hw h0 t hE.2.2
    dsimp only
    generalize sp_st n kd o1 o2 ms E t = y at g1 b1
    split
    · exact b1
    · rename_i hc
      exact sp_sb_tr b1 (sp_pp_sb (sp_st_gd hw h0) (fun E t h => sp_st_sb hw h0 t h.2.2) (sp_sk_gd hw h0 k) ih h0 _ _ _ g1 (by
        cases hh : y.2.1.2 with
        | false => rfl
        | true => exact absurd (Or.inr hh) hc))
/-- the class of TRUE is one: there is a class -/
theorem sp_cn_pos {n : Nat} {E : sp_E} (h : sp_va n E) (h0 : 1 ≤ n) : 1 ≤ sp_cn n E := by
  unfold sp_cn
  obtain ⟨m, hm⟩ : ∃ m, 2 * n = m + 1 := ⟨2 * n - 1, by omega⟩
  rw [hm]
  unfold sp_ct
  rw [(sp_va_01 h h0).1]
  simp
/-- v is free, as the class asks it -/
theorem cs_fr {n v : Nat} {E : sp_E} (h : sp_va n E) (h0 : 1 ≤ n) : sp_fr E v ↔ 1 < E.1 (2 * v) := by
  unfold sp_fr
  rw [(sp_va_01 h h0).1, (sp_va_01 h h0).2]
  omega
