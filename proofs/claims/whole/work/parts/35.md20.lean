/-! TOKENS: the specification, and the reference's scan -/
def sp_sg (x : sp_X) (k : Nat) : Int32 := if k < x.2 then x.1 k else -1
abbrev sp_blank (c : Int32) : Prop := c = 9 ∨ c = 10 ∨ c = 13 ∨ c = 32
abbrev sp_small (c : Int32) : Prop := 97 ≤ c ∧ c ≤ 122
abbrev sp_digit (c : Int32) : Prop := 48 ≤ c ∧ c ≤ 57
abbrev sp_sgn (c : Int32) : Prop := c = 40 ∨ c = 41 ∨ c = 38 ∨ c = 124 ∨ c = 94 ∨ c = 126
/-- behind blanks, behind a word: at most m signs -/
def sp_bl (x : sp_X) : Nat → Nat → Nat
  | 0, p => p
  | m + 1, p => if sp_blank (x.1 p) then sp_bl x m (p + 1) else p
def sp_we (x : sp_X) : Nat → Nat → Nat
  | 0, p => p
  | m + 1, p => if sp_small (x.1 p) ∨ sp_digit (x.1 p) then sp_we x m (p + 1) else p
abbrev sp_true (x : sp_X) (s : Nat) : Prop := x.1 s = 116 ∧ x.1 (s + 1) = 114 ∧ x.1 (s + 2) = 117 ∧ x.1 (s + 3) = 101
abbrev sp_false (x : sp_X) (s : Nat) : Prop := x.1 s = 102 ∧ x.1 (s + 1) = 97 ∧ x.1 (s + 2) = 108 ∧ x.1 (s + 3) = 115 ∧ x.1 (s + 4) = 101
/-- a word of size n at s -/
def sp_wk (x : sp_X) (s n : Nat) : Int32 := if 6 < n then 262 else if n = 4 ∧ sp_true x s then 258 else if n = 5 ∧ sp_false x s then 259 else 257
/-- the token that begins at s, no blank: its kind and size -/
def sp_tw (x : sp_X) (s : Nat) : Int32 × Nat := if s = x.2 then (256, 0) else if sp_small (x.1 s) then (sp_wk x s (sp_we x (x.2 - s) s - s), sp_we x (x.2 - s) s - s) else if x.1 s = 45 ∧ sp_sg x (s + 1) = 62 then (260, 2) else if x.1 s = 60 ∧ sp_sg x (s + 1) = 45 ∧ sp_sg x (s + 2) = 62 then (261, 3) else (if sp_sgn (x.1 s) then x.1 s else 262, 1)
/-- where the token behind place p begins -/
def sp_ts (x : sp_X) (p : Nat) : Nat := sp_bl x (x.2 - p) p
theorem sp_bl_le (x : sp_X) : ∀ m p, p ≤ sp_bl x m p ∧ sp_bl x m p ≤ p + m := by
  intro m
  induction m with
  | zero => intro p; exact ⟨Nat.le_refl p, Nat.le_refl p⟩
  | succ m ih =>
    intro p
    unfold sp_bl
    split
    · obtain ⟨a, b⟩ := ih (p + 1)
      exact ⟨by omega, by omega⟩
    · exact ⟨Nat.le_refl p, by omega⟩
theorem sp_we_le (x : sp_X) : ∀ m p, p ≤ sp_we x m p ∧ sp_we x m p ≤ p + m := by
  intro m
  induction m with
  | zero => intro p; exact ⟨Nat.le_refl p, Nat.le_refl p⟩
  | succ m ih =>
    intro p
    unfold sp_we
    split
    · obtain ⟨a, b⟩ := ih (p + 1)
      exact ⟨by omega, by omega⟩
    · exact ⟨Nat.le_refl p, by omega⟩
theorem sp_ts_le {x : sp_X} {p : Nat} (h : p ≤ x.2) : p ≤ sp_ts x p ∧ sp_ts x p ≤ x.2 := by
  obtain ⟨a, b⟩ := sp_bl_le x (x.2 - p) p
  unfold sp_ts
  exact ⟨a, by omega⟩
theorem sp_we_s {x : sp_X} {s : Nat} (h : s < x.2) (hs : sp_small (x.1 s)) : sp_we x (x.2 - s) s = sp_we x (x.2 - (s + 1)) (s + 1) := by
  rw [show x.2 - s = (x.2 - (s + 1)) + 1 by omega]
  conv => lhs; unfold sp_we
  rw [if_pos (Or.inl hs)]
/-- a token lies in the text; only the end has no size -/
theorem sp_tw_sz {x : sp_X} {s : Nat} (h : s ≤ x.2) : s + (sp_tw x s).2 ≤ x.2 ∧ ((sp_tw x s).1 = 256 ↔ s = x.2) ∧ (¬ s = x.2 → 1 ≤ (sp_tw x s).2) := by
  unfold sp_tw
  by_cases c0 : s = x.2
  · rw [if_pos c0]
    exact ⟨by show s + 0 ≤ x.2; omega, ⟨fun _ => c0, fun _ => rfl⟩, fun z => absurd c0 z⟩
  · rw [if_neg c0]
    by_cases c1 : sp_small (x.1 s)
    · rw [if_pos c1]
      have h1 := sp_we_s (x := x) (s := s) (by omega) c1
      have h2 := sp_we_le x (x.2 - (s + 1)) (s + 1)
      refine ⟨by show s + (sp_we x (x.2 - s) s - s) ≤ x.2; omega, ⟨fun z => ?_, fun z => absurd z c0⟩, fun _ => by show 1 ≤ sp_we x (x.2 - s) s - s; omega⟩
      have : ∀ n, ¬ sp_wk x s n = 256 := fun n => by
        unfold sp_wk
        split
        · decide
        · split
          · decide
          · split <;> decide
      exact absurd z (this _)
    · rw [if_neg c1]
      by_cases c2 : x.1 s = 45 ∧ sp_sg x (s + 1) = 62
      · rw [if_pos c2]
        have : s + 1 < x.2 := by
          by_cases hh : s + 1 < x.2
          · exact hh
          · have := c2.2
            unfold sp_sg at this
            rw [if_neg hh] at this
            exact absurd this (by decide)
        exact ⟨by show s + 2 ≤ x.2; omega, ⟨fun z => absurd z (by show ¬ (260 : Int32) = 256; decide), fun z => absurd z c0⟩, fun _ => by show 1 ≤ 2; decide⟩
      · rw [if_neg c2]
        by_cases c3 : x.1 s = 60 ∧ sp_sg x (s + 1) = 45 ∧ sp_sg x (s + 2) = 62
        · rw [if_pos c3]
          have : s + 2 < x.2 := by
            by_cases hh : s + 2 < x.2
            · exact hh
            · have := c3.2.2
              unfold sp_sg at this
              rw [if_neg hh] at this
              exact absurd this (by decide)
          exact ⟨by show s + 3 ≤ x.2; omega, ⟨fun z => absurd z (by show ¬ (261 : Int32) = 256; decide), fun z => absurd z c0⟩, fun _ => by show 1 ≤ 3; decide⟩
        · rw [if_neg c3]
          refine ⟨by show s + 1 ≤ x.2; omega, ⟨fun z => ?_, fun z => absurd z c0⟩, fun _ => Nat.le_refl 1⟩
          have z2 : (if sp_sgn (x.1 s) then x.1 s else 262) = 256 := z
          split at z2
          · rename_i hs
            rw [z2] at hs
            exact absurd hs (by decide)
          · exact absurd z2 (by decide)
/-- what a scan gives -/
def md_tk (σ σ2 : md_S) (s : Nat) (k : Int32) (n : Nat) : Prop := ((∀ j, (j < 12 ∨ 16 < j) → σ2.1 j = σ.1 j) ∧ σ2.2 = σ.2) ∧ σ2.1 12 = nI s ∧ σ2.1 13 = k ∧ σ2.1 14 = nI s ∧ σ2.1 15 = nI n ∧ σ2.1 16 = 1
section M20
variable {X : xo_X} {d B : Nat} {σ : md_S} {g : xo_G} {Q : Option Value → xo_G → Prop} {x : sp_X}
theorem c_isDigit (c : Int32) : ev_C X d m_Md_isDigit [.int c] g Q ↔ Q (some (.int (zi (sp_digit c)))) g := by
  show ev_R X d m_Md_isDigit 0 [some (.int c)] [] g Q ↔ _
  simp only [e_Md_isDigit_0, e_Md_isDigit_1, e_Md_isDigit_3, e_Md_isDigit_6, e_Md_isDigit_7, e_Md_isDigit_9, e_Md_isDigit_12, e_Md_isDigit_13, e_Md_isDigit_16, e_Md_isDigit_17, ev_rm_n, ev_rm_i, ev_rm_r, ev_rm_l, ev_ok_n, ev_ok_i, ev_ok_r, Option.toList_some, Option.toList_none, List.cons_append, List.nil_append, true_and, and_true, true_or, or_true, reduceIte, Nat.reduceEqDiff, if_true, if_false]
  unfold zi
  by_cases h1 : c < 48 <;> by_cases h2 : 57 < c <;> simp [h1, h2, sp_digit, Int32.not_lt.mp, Int32.not_le.mpr, Int32.not_lt.symm]
theorem c_isSign (c : Int32) : ev_C X d m_Md_isSign [.int c] g Q ↔ Q (some (.int (zi (sp_sgn c)))) g := by
  show ev_R X d m_Md_isSign 0 [some (.int c)] [] g Q ↔ _
  simp only [e_Md_isSign_0, e_Md_isSign_1, e_Md_isSign_3, e_Md_isSign_6, e_Md_isSign_7, e_Md_isSign_9, e_Md_isSign_12, e_Md_isSign_13, e_Md_isSign_15, e_Md_isSign_18, e_Md_isSign_19, e_Md_isSign_21, e_Md_isSign_24, e_Md_isSign_25, e_Md_isSign_27, e_Md_isSign_30, e_Md_isSign_31, e_Md_isSign_33, e_Md_isSign_36, e_Md_isSign_37, e_Md_isSign_40, e_Md_isSign_41, ev_rm_n, ev_rm_i, ev_rm_r, ev_rm_l, ev_ok_n, ev_ok_i, ev_ok_r, Option.toList_some, Option.toList_none, List.cons_append, List.nil_append, true_and, and_true, true_or, or_true, reduceIte, Nat.reduceEqDiff, if_true, if_false]
  unfold zi
  by_cases h1 : c = 40
  · simp [h1, sp_sgn]
  · by_cases h2 : c = 41
    · simp [h2, sp_sgn]
    · by_cases h3 : c = 38
      · simp [h3, sp_sgn]
      · by_cases h4 : c = 124
        · simp [h4, sp_sgn]
        · by_cases h5 : c = 94
          · simp [h5, sp_sgn]
          · by_cases h6 : c = 126
            · simp [h6, sp_sgn]
            · simp [h1, h2, h3, h4, h5, h6, sp_sgn]
theorem c_signAt {k : Nat} (hx : md_xR σ x) (hn : x.2 ≤ 3000) (hk : k < 2 ^ 31) : ev_C X d m_Md_signAt [.ref B, .int (nI k)] (md_put B σ g) Q ↔ Q (some (.int (sp_sg x k))) (md_put B σ g) := by
  show ev_R X d m_Md_signAt 0 [some (.ref B), some (.int (nI k))] [] (md_put B σ g) Q ↔ _
  have h1 := hx.1
  unfold sp_sg
  by_cases hlt : k < x.2
  · have hle : ¬ x.2 ≤ k := by omega
    have h2 := hx.2 k hlt
    simp (disch := first | exact ev_ok_i _ | exact ev_ok_r _ | exact ev_ok_n | omega | assumption) only [e_Md_signAt_0, e_Md_signAt_1, e_Md_signAt_2, e_Md_signAt_5, e_Md_signAt_8, e_Md_signAt_9, e_Md_signAt_12, e_Md_signAt_13, e_Md_signAt_14, e_Md_signAt_17, e_Md_signAt_18, ev_rm_n, ev_rm_i, ev_rm_r, ev_rm_l, ev_ok_n, ev_ok_i, ev_ok_r, Option.toList_some, Option.toList_none, List.cons_append, List.nil_append, true_and, and_true, true_or, or_true, reduceIte, Nat.reduceEqDiff, if_true, if_false, md_rc, md_si_1, md_si_2, md_sa_1, md_sa_2, mg_kind, mr_kind, mw_kind, mg_one, mr_one, mw_one, mg_two, mr_two, mw_two, mg_variables, mp_variables, mg_inputs, mp_inputs, mg_inputOf, mr_inputOf, mw_inputOf, mg_nameSign, mr_nameSign, mw_nameSign, mg_nameSize, mr_nameSize, mw_nameSize, mg_label, mr_label, mw_label, mg_isContrary, mp_isContrary, mg_text, mr_text, mw_text, mg_textSize, mp_textSize, mg_at, mp_at, mg_token, mp_token, mg_tokenAt, mp_tokenAt, mg_tokenSize, mp_tokenSize, mg_scanned, mp_scanned, mg_fault, mp_fault, mg_faultAt, mp_faultAt, mg_place, mp_place, mg_open, mp_open, mg_level, mr_level, mw_level, mg_stage, mr_stage, mw_stage, mg_held, mr_held, mw_held, mg_signPlace, mr_signPlace, mw_signPlace, mg_value, mp_value, mg_row, mr_row, mw_row, mg_contrary, mr_contrary, mw_contrary, mg_firstRow, mr_firstRow, mw_firstRow, mg_firstContrary, mr_firstContrary, mw_firstContrary, mg_depthOf, mr_depthOf, mw_depthOf, mg_phase, mr_phase, mw_phase, mg_tried, mr_tried, mw_tried, mg_before, mr_before, mw_before, mg_old, mr_old, mw_old, mg_steps, mp_steps, mg_mostSteps, mp_mostSteps, mg_rounds, mp_rounds, mg_passes, mp_passes, mg_branches, mp_branches, mg_worth, mr_worth, mw_worth, h1, nI_leI, hle, hlt, xo_in, nI_clamp, h2]
  · have hle : x.2 ≤ k := by omega
    simp (disch := first | exact ev_ok_i _ | exact ev_ok_r _ | exact ev_ok_n | omega | assumption) only [e_Md_signAt_0, e_Md_signAt_1, e_Md_signAt_2, e_Md_signAt_5, e_Md_signAt_8, e_Md_signAt_9, e_Md_signAt_12, e_Md_signAt_13, e_Md_signAt_14, e_Md_signAt_17, e_Md_signAt_18, ev_rm_n, ev_rm_i, ev_rm_r, ev_rm_l, ev_ok_n, ev_ok_i, ev_ok_r, Option.toList_some, Option.toList_none, List.cons_append, List.nil_append, true_and, and_true, true_or, or_true, reduceIte, Nat.reduceEqDiff, if_true, if_false, md_rc, md_si_1, md_si_2, md_sa_1, md_sa_2, mg_kind, mr_kind, mw_kind, mg_one, mr_one, mw_one, mg_two, mr_two, mw_two, mg_variables, mp_variables, mg_inputs, mp_inputs, mg_inputOf, mr_inputOf, mw_inputOf, mg_nameSign, mr_nameSign, mw_nameSign, mg_nameSize, mr_nameSize, mw_nameSize, mg_label, mr_label, mw_label, mg_isContrary, mp_isContrary, mg_text, mr_text, mw_text, mg_textSize, mp_textSize, mg_at, mp_at, mg_token, mp_token, mg_tokenAt, mp_tokenAt, mg_tokenSize, mp_tokenSize, mg_scanned, mp_scanned, mg_fault, mp_fault, mg_faultAt, mp_faultAt, mg_place, mp_place, mg_open, mp_open, mg_level, mr_level, mw_level, mg_stage, mr_stage, mw_stage, mg_held, mr_held, mw_held, mg_signPlace, mr_signPlace, mw_signPlace, mg_value, mp_value, mg_row, mr_row, mw_row, mg_contrary, mr_contrary, mw_contrary, mg_firstRow, mr_firstRow, mw_firstRow, mg_firstContrary, mr_firstContrary, mw_firstContrary, mg_depthOf, mr_depthOf, mw_depthOf, mg_phase, mr_phase, mw_phase, mg_tried, mr_tried, mw_tried, mg_before, mr_before, mw_before, mg_old, mr_old, mw_old, mg_steps, mp_steps, mg_mostSteps, mp_mostSteps, mg_rounds, mp_rounds, mg_passes, mp_passes, mg_branches, mp_branches, mg_worth, mr_worth, mw_worth, h1, nI_leI, hle, hlt]
theorem c_isTrueWord {s n : Nat} (hx : md_xR σ x) (hn : x.2 ≤ 3000) (hs : s + n ≤ x.2) (h14 : σ.1 14 = nI s) (h15 : σ.1 15 = nI n) : ev_C X d m_Md_isTrueWord [.ref B] (md_put B σ g) Q ↔ Q (some (.int (zi (n = 4 ∧ sp_true x s)))) (md_put B σ g) := by
  show ev_R X d m_Md_isTrueWord 0 [some (.ref B)] [] (md_put B σ g) Q ↔ _
  have e4 : ∀ a, a < 2 ^ 31 → (nI a = 4 ↔ a = 4) := fun a h => nI_eq (b := 4) h (by decide)
  have e2 : ∀ a, nI a + 2 = nI (a + 2) := fun a => nI_add a 2
  have e3 : ∀ a, nI a + 3 = nI (a + 3) := fun a => nI_add a 3
  by_cases h4 : n = 4
  · subst h4
    have q0 := hx.2 s (by omega)
    have q1 := hx.2 (s + 1) (by omega)
    have q2 := hx.2 (s + 2) (by omega)
    have q3 := hx.2 (s + 3) (by omega)
    have z4 : nI 4 = 4 := rfl
    simp (disch := first | exact ev_ok_i _ | exact ev_ok_r _ | exact ev_ok_n | omega | assumption) only [e_Md_isTrueWord_0, e_Md_isTrueWord_1, e_Md_isTrueWord_4, e_Md_isTrueWord_5, e_Md_isTrueWord_8, e_Md_isTrueWord_9, e_Md_isTrueWord_12, e_Md_isTrueWord_13, e_Md_isTrueWord_16, e_Md_isTrueWord_17, e_Md_isTrueWord_19, e_Md_isTrueWord_22, e_Md_isTrueWord_23, e_Md_isTrueWord_26, e_Md_isTrueWord_27, e_Md_isTrueWord_30, e_Md_isTrueWord_31, e_Md_isTrueWord_32, e_Md_isTrueWord_33, e_Md_isTrueWord_35, e_Md_isTrueWord_38, e_Md_isTrueWord_39, e_Md_isTrueWord_42, e_Md_isTrueWord_43, e_Md_isTrueWord_46, e_Md_isTrueWord_47, e_Md_isTrueWord_48, e_Md_isTrueWord_49, e_Md_isTrueWord_51, e_Md_isTrueWord_54, e_Md_isTrueWord_55, e_Md_isTrueWord_58, e_Md_isTrueWord_59, e_Md_isTrueWord_62, e_Md_isTrueWord_63, e_Md_isTrueWord_64, e_Md_isTrueWord_65, e_Md_isTrueWord_67, e_Md_isTrueWord_70, e_Md_isTrueWord_71, e_Md_isTrueWord_74, e_Md_isTrueWord_75, ev_rm_n, ev_rm_i, ev_rm_r, ev_rm_l, ev_ok_n, ev_ok_i, ev_ok_r, Option.toList_some, Option.toList_none, List.cons_append, List.nil_append, true_and, and_true, true_or, or_true, reduceIte, Nat.reduceEqDiff, if_true, if_false, md_rc, md_si_1, md_si_2, md_sa_1, md_sa_2, mg_kind, mr_kind, mw_kind, mg_one, mr_one, mw_one, mg_two, mr_two, mw_two, mg_variables, mp_variables, mg_inputs, mp_inputs, mg_inputOf, mr_inputOf, mw_inputOf, mg_nameSign, mr_nameSign, mw_nameSign, mg_nameSize, mr_nameSize, mw_nameSize, mg_label, mr_label, mw_label, mg_isContrary, mp_isContrary, mg_text, mr_text, mw_text, mg_textSize, mp_textSize, mg_at, mp_at, mg_token, mp_token, mg_tokenAt, mp_tokenAt, mg_tokenSize, mp_tokenSize, mg_scanned, mp_scanned, mg_fault, mp_fault, mg_faultAt, mp_faultAt, mg_place, mp_place, mg_open, mp_open, mg_level, mr_level, mw_level, mg_stage, mr_stage, mw_stage, mg_held, mr_held, mw_held, mg_signPlace, mr_signPlace, mw_signPlace, mg_value, mp_value, mg_row, mr_row, mw_row, mg_contrary, mr_contrary, mw_contrary, mg_firstRow, mr_firstRow, mw_firstRow, mg_firstContrary, mr_firstContrary, mw_firstContrary, mg_depthOf, mr_depthOf, mw_depthOf, mg_phase, mr_phase, mw_phase, mg_tried, mr_tried, mw_tried, mg_before, mr_before, mw_before, mg_old, mr_old, mw_old, mg_steps, mp_steps, mg_mostSteps, mp_mostSteps, mg_rounds, mp_rounds, mg_passes, mp_passes, mg_branches, mp_branches, mg_worth, mr_worth, mw_worth, h14, h15, z4, not_true_eq_false, xo_in, nI_clamp, nI_1, e2, e3, q0, q1, q2, q3]
    unfold zi
    by_cases a0 : x.1 s = 116 <;> by_cases a1 : x.1 (s + 1) = 114 <;> by_cases a2 : x.1 (s + 2) = 117 <;> by_cases a3 : x.1 (s + 3) = 101 <;> simp [a0, a1, a2, a3, sp_true]
  · simp (disch := first | exact ev_ok_i _ | exact ev_ok_r _ | exact ev_ok_n | omega | assumption) only [e_Md_isTrueWord_0, e_Md_isTrueWord_1, e_Md_isTrueWord_4, e_Md_isTrueWord_5, e_Md_isTrueWord_74, e_Md_isTrueWord_75, ev_rm_n, ev_rm_i, ev_rm_r, ev_rm_l, ev_ok_n, ev_ok_i, ev_ok_r, Option.toList_some, Option.toList_none, List.cons_append, List.nil_append, true_and, and_true, true_or, or_true, reduceIte, Nat.reduceEqDiff, if_true, if_false, md_rc, md_si_1, md_si_2, md_sa_1, md_sa_2, mg_kind, mr_kind, mw_kind, mg_one, mr_one, mw_one, mg_two, mr_two, mw_two, mg_variables, mp_variables, mg_inputs, mp_inputs, mg_inputOf, mr_inputOf, mw_inputOf, mg_nameSign, mr_nameSign, mw_nameSign, mg_nameSize, mr_nameSize, mw_nameSize, mg_label, mr_label, mw_label, mg_isContrary, mp_isContrary, mg_text, mr_text, mw_text, mg_textSize, mp_textSize, mg_at, mp_at, mg_token, mp_token, mg_tokenAt, mp_tokenAt, mg_tokenSize, mp_tokenSize, mg_scanned, mp_scanned, mg_fault, mp_fault, mg_faultAt, mp_faultAt, mg_place, mp_place, mg_open, mp_open, mg_level, mr_level, mw_level, mg_stage, mr_stage, mw_stage, mg_held, mr_held, mw_held, mg_signPlace, mr_signPlace, mw_signPlace, mg_value, mp_value, mg_row, mr_row, mw_row, mg_contrary, mr_contrary, mw_contrary, mg_firstRow, mr_firstRow, mw_firstRow, mg_firstContrary, mr_firstContrary, mw_firstContrary, mg_depthOf, mr_depthOf, mw_depthOf, mg_phase, mr_phase, mw_phase, mg_tried, mr_tried, mw_tried, mg_before, mr_before, mw_before, mg_old, mr_old, mw_old, mg_steps, mp_steps, mg_mostSteps, mp_mostSteps, mg_rounds, mp_rounds, mg_passes, mp_passes, mg_branches, mp_branches, mg_worth, mr_worth, mw_worth, h15, e4, h4]
    simp [zi]
theorem c_isFalseWord {s n : Nat} (hx : md_xR σ x) (hn : x.2 ≤ 3000) (hs : s + n ≤ x.2) (h14 : σ.1 14 = nI s) (h15 : σ.1 15 = nI n) : ev_C X d m_Md_isFalseWord [.ref B] (md_put B σ g) Q ↔ Q (some (.int (zi (n = 5 ∧ sp_false x s)))) (md_put B σ g) := by
  show ev_R X d m_Md_isFalseWord 0 [some (.ref B)] [] (md_put B σ g) Q ↔ _
  have e5 : ∀ a, a < 2 ^ 31 → (nI a = 5 ↔ a = 5) := fun a h => nI_eq (b := 5) h (by decide)
  have e2 : ∀ a, nI a + 2 = nI (a + 2) := fun a => nI_add a 2
  have e3 : ∀ a, nI a + 3 = nI (a + 3) := fun a => nI_add a 3
  have e4 : ∀ a, nI a + 4 = nI (a + 4) := fun a => nI_add a 4
  by_cases h5 : n = 5
  · subst h5
    have q0 := hx.2 s (by omega)
    have q1 := hx.2 (s + 1) (by omega)
    have q2 := hx.2 (s + 2) (by omega)
    have q3 := hx.2 (s + 3) (by omega)
    have q4 := hx.2 (s + 4) (by omega)
    have z5 : nI 5 = 5 := rfl
    simp (disch := first | exact ev_ok_i _ | exact ev_ok_r _ | exact ev_ok_n | omega | assumption) only [e_Md_isFalseWord_0, e_Md_isFalseWord_1, e_Md_isFalseWord_4, e_Md_isFalseWord_5, e_Md_isFalseWord_8, e_Md_isFalseWord_9, e_Md_isFalseWord_12, e_Md_isFalseWord_13, e_Md_isFalseWord_16, e_Md_isFalseWord_17, e_Md_isFalseWord_19, e_Md_isFalseWord_22, e_Md_isFalseWord_23, e_Md_isFalseWord_26, e_Md_isFalseWord_27, e_Md_isFalseWord_30, e_Md_isFalseWord_31, e_Md_isFalseWord_32, e_Md_isFalseWord_33, e_Md_isFalseWord_35, e_Md_isFalseWord_38, e_Md_isFalseWord_39, e_Md_isFalseWord_42, e_Md_isFalseWord_43, e_Md_isFalseWord_46, e_Md_isFalseWord_47, e_Md_isFalseWord_48, e_Md_isFalseWord_49, e_Md_isFalseWord_51, e_Md_isFalseWord_54, e_Md_isFalseWord_55, e_Md_isFalseWord_58, e_Md_isFalseWord_59, e_Md_isFalseWord_62, e_Md_isFalseWord_63, e_Md_isFalseWord_64, e_Md_isFalseWord_65, e_Md_isFalseWord_67, e_Md_isFalseWord_70, e_Md_isFalseWord_71, e_Md_isFalseWord_74, e_Md_isFalseWord_75, e_Md_isFalseWord_78, e_Md_isFalseWord_79, e_Md_isFalseWord_80, e_Md_isFalseWord_81, e_Md_isFalseWord_83, e_Md_isFalseWord_86, e_Md_isFalseWord_87, e_Md_isFalseWord_90, e_Md_isFalseWord_91, ev_rm_n, ev_rm_i, ev_rm_r, ev_rm_l, ev_ok_n, ev_ok_i, ev_ok_r, Option.toList_some, Option.toList_none, List.cons_append, List.nil_append, true_and, and_true, true_or, or_true, reduceIte, Nat.reduceEqDiff, if_true, if_false, md_rc, md_si_1, md_si_2, md_sa_1, md_sa_2, mg_kind, mr_kind, mw_kind, mg_one, mr_one, mw_one, mg_two, mr_two, mw_two, mg_variables, mp_variables, mg_inputs, mp_inputs, mg_inputOf, mr_inputOf, mw_inputOf, mg_nameSign, mr_nameSign, mw_nameSign, mg_nameSize, mr_nameSize, mw_nameSize, mg_label, mr_label, mw_label, mg_isContrary, mp_isContrary, mg_text, mr_text, mw_text, mg_textSize, mp_textSize, mg_at, mp_at, mg_token, mp_token, mg_tokenAt, mp_tokenAt, mg_tokenSize, mp_tokenSize, mg_scanned, mp_scanned, mg_fault, mp_fault, mg_faultAt, mp_faultAt, mg_place, mp_place, mg_open, mp_open, mg_level, mr_level, mw_level, mg_stage, mr_stage, mw_stage, mg_held, mr_held, mw_held, mg_signPlace, mr_signPlace, mw_signPlace, mg_value, mp_value, mg_row, mr_row, mw_row, mg_contrary, mr_contrary, mw_contrary, mg_firstRow, mr_firstRow, mw_firstRow, mg_firstContrary, mr_firstContrary, mw_firstContrary, mg_depthOf, mr_depthOf, mw_depthOf, mg_phase, mr_phase, mw_phase, mg_tried, mr_tried, mw_tried, mg_before, mr_before, mw_before, mg_old, mr_old, mw_old, mg_steps, mp_steps, mg_mostSteps, mp_mostSteps, mg_rounds, mp_rounds, mg_passes, mp_passes, mg_branches, mp_branches, mg_worth, mr_worth, mw_worth, h14, h15, z5, not_true_eq_false, xo_in, nI_clamp, nI_1, e2, e3, e4, q0, q1, q2, q3, q4]
    unfold zi
    by_cases a0 : x.1 s = 102 <;> by_cases a1 : x.1 (s + 1) = 97 <;> by_cases a2 : x.1 (s + 2) = 108 <;> by_cases a3 : x.1 (s + 3) = 115 <;> by_cases a4 : x.1 (s + 4) = 101 <;> simp [a0, a1, a2, a3, a4, sp_false]
  · simp (disch := first | exact ev_ok_i _ | exact ev_ok_r _ | exact ev_ok_n | omega | assumption) only [e_Md_isFalseWord_0, e_Md_isFalseWord_1, e_Md_isFalseWord_4, e_Md_isFalseWord_5, e_Md_isFalseWord_90, e_Md_isFalseWord_91, ev_rm_n, ev_rm_i, ev_rm_r, ev_rm_l, ev_ok_n, ev_ok_i, ev_ok_r, Option.toList_some, Option.toList_none, List.cons_append, List.nil_append, true_and, and_true, true_or, or_true, reduceIte, Nat.reduceEqDiff, if_true, if_false, md_rc, md_si_1, md_si_2, md_sa_1, md_sa_2, mg_kind, mr_kind, mw_kind, mg_one, mr_one, mw_one, mg_two, mr_two, mw_two, mg_variables, mp_variables, mg_inputs, mp_inputs, mg_inputOf, mr_inputOf, mw_inputOf, mg_nameSign, mr_nameSign, mw_nameSign, mg_nameSize, mr_nameSize, mw_nameSize, mg_label, mr_label, mw_label, mg_isContrary, mp_isContrary, mg_text, mr_text, mw_text, mg_textSize, mp_textSize, mg_at, mp_at, mg_token, mp_token, mg_tokenAt, mp_tokenAt, mg_tokenSize, mp_tokenSize, mg_scanned, mp_scanned, mg_fault, mp_fault, mg_faultAt, mp_faultAt, mg_place, mp_place, mg_open, mp_open, mg_level, mr_level, mw_level, mg_stage, mr_stage, mw_stage, mg_held, mr_held, mw_held, mg_signPlace, mr_signPlace, mw_signPlace, mg_value, mp_value, mg_row, mr_row, mw_row, mg_contrary, mr_contrary, mw_contrary, mg_firstRow, mr_firstRow, mw_firstRow, mg_firstContrary, mr_firstContrary, mw_firstContrary, mg_depthOf, mr_depthOf, mw_depthOf, mg_phase, mr_phase, mw_phase, mg_tried, mr_tried, mw_tried, mg_before, mr_before, mw_before, mg_old, mr_old, mw_old, mg_steps, mp_steps, mg_mostSteps, mp_mostSteps, mg_rounds, mp_rounds, mg_passes, mp_passes, mg_branches, mp_branches, mg_worth, mr_worth, mw_worth, h15, e5, h5]
    simp [zi]
theorem md_si_si (σ : md_S) (k : Nat) (a b : Int32) : md_si (md_si σ k a) k b = md_si σ k b := by
  refine Prod.ext (funext fun j => ?_) rfl
  show va_up (va_up σ.1 k a) k b j = va_up σ.1 k b j
  by_cases h : j = k
  · subst h; rw [va_up_self, va_up_self]
  · rw [va_up_ne _ _ h, va_up_ne _ _ h, va_up_ne _ _ h]
theorem md_si_eq {σ : md_S} {k : Nat} {a : Int32} (h : σ.1 k = a) : md_si σ k a = σ := by
  refine Prod.ext (funext fun j => ?_) rfl
  show va_up σ.1 k a j = σ.1 j
  by_cases e : j = k
  · subst e; rw [va_up_self, h]
  · rw [va_up_ne _ _ e]
theorem c_scan_bl (hx : md_xR σ x) (hn : x.2 ≤ 3000) {l1 : Option Value} : ∀ (m p : Nat), p + m = x.2 → (ev_R X d m_Md_scan 0 [some (.ref B), l1] [] (md_put B (md_si σ 12 (nI p)) g) Q ↔ ev_R X d m_Md_scan 80 [some (.ref B), l1] [] (md_put B (md_si σ 12 (nI (sp_bl x m p))) g) Q) := by
  intro m
  have h11 := hx.1
  induction m with
  | zero =>
    intro p hp
    have hle : x.2 ≤ p := by omega
    unfold sp_bl
    simp (disch := first | exact ev_ok_i _ | exact ev_ok_r _ | exact ev_ok_n | omega | assumption) only [e_Md_scan_0, e_Md_scan_1, e_Md_scan_4, e_Md_scan_5, e_Md_scan_8, ev_rm_n, ev_rm_i, ev_rm_r, ev_rm_l, ev_ok_n, ev_ok_i, ev_ok_r, Option.toList_some, Option.toList_none, List.cons_append, List.nil_append, true_and, and_true, true_or, or_true, reduceIte, Nat.reduceEqDiff, if_true, if_false, md_rc, md_si_1, md_si_2, md_sa_1, md_sa_2, mg_kind, mr_kind, mw_kind, mg_one, mr_one, mw_one, mg_two, mr_two, mw_two, mg_variables, mp_variables, mg_inputs, mp_inputs, mg_inputOf, mr_inputOf, mw_inputOf, mg_nameSign, mr_nameSign, mw_nameSign, mg_nameSize, mr_nameSize, mw_nameSize, mg_label, mr_label, mw_label, mg_isContrary, mp_isContrary, mg_text, mr_text, mw_text, mg_textSize, mp_textSize, mg_at, mp_at, mg_token, mp_token, mg_tokenAt, mp_tokenAt, mg_tokenSize, mp_tokenSize, mg_scanned, mp_scanned, mg_fault, mp_fault, mg_faultAt, mp_faultAt, mg_place, mp_place, mg_open, mp_open, mg_level, mr_level, mw_level, mg_stage, mr_stage, mw_stage, mg_held, mr_held, mw_held, mg_signPlace, mr_signPlace, mw_signPlace, mg_value, mp_value, mg_row, mr_row, mw_row, mg_contrary, mr_contrary, mw_contrary, mg_firstRow, mr_firstRow, mw_firstRow, mg_firstContrary, mr_firstContrary, mw_firstContrary, mg_depthOf, mr_depthOf, mw_depthOf, mg_phase, mr_phase, mw_phase, mg_tried, mr_tried, mw_tried, mg_before, mr_before, mw_before, mg_old, mr_old, mw_old, mg_steps, mp_steps, mg_mostSteps, mp_mostSteps, mg_rounds, mp_rounds, mg_passes, mp_passes, mg_branches, mp_branches, mg_worth, mr_worth, mw_worth, h11, nI_leI, hle]
  | succ m ih =>
    intro p hp
    have hle : ¬ x.2 ≤ p := by omega
    have hq := hx.2 p (by omega)
    have hih := ih (p + 1) (by omega)
    have key : ev_R X d m_Md_scan 67 [some (.ref B), l1] [] (md_put B (md_si σ 12 (nI p)) g) Q ↔ ev_R X d m_Md_scan 80 [some (.ref B), l1] [] (md_put B (md_si σ 12 (nI (sp_bl x m (p + 1)))) g) Q := by
      simp (disch := first | exact ev_ok_i _ | exact ev_ok_r _ | exact ev_ok_n | omega | assumption) only [e_Md_scan_67, e_Md_scan_68, e_Md_scan_69, e_Md_scan_72, e_Md_scan_73, e_Md_scan_74, ev_rm_n, ev_rm_i, ev_rm_r, ev_rm_l, ev_ok_n, ev_ok_i, ev_ok_r, Option.toList_some, Option.toList_none, List.cons_append, List.nil_append, true_and, and_true, true_or, or_true, reduceIte, Nat.reduceEqDiff, if_true, if_false, md_rc, md_si_1, md_si_2, md_sa_1, md_sa_2, mg_kind, mr_kind, mw_kind, mg_one, mr_one, mw_one, mg_two, mr_two, mw_two, mg_variables, mp_variables, mg_inputs, mp_inputs, mg_inputOf, mr_inputOf, mw_inputOf, mg_nameSign, mr_nameSign, mw_nameSign, mg_nameSize, mr_nameSize, mw_nameSize, mg_label, mr_label, mw_label, mg_isContrary, mp_isContrary, mg_text, mr_text, mw_text, mg_textSize, mp_textSize, mg_at, mp_at, mg_token, mp_token, mg_tokenAt, mp_tokenAt, mg_tokenSize, mp_tokenSize, mg_scanned, mp_scanned, mg_fault, mp_fault, mg_faultAt, mp_faultAt, mg_place, mp_place, mg_open, mp_open, mg_level, mr_level, mw_level, mg_stage, mr_stage, mw_stage, mg_held, mr_held, mw_held, mg_signPlace, mr_signPlace, mw_signPlace, mg_value, mp_value, mg_row, mr_row, mw_row, mg_contrary, mr_contrary, mw_contrary, mg_firstRow, mr_firstRow, mw_firstRow, mg_firstContrary, mr_firstContrary, mw_firstContrary, mg_depthOf, mr_depthOf, mw_depthOf, mg_phase, mr_phase, mw_phase, mg_tried, mr_tried, mw_tried, mg_before, mr_before, mw_before, mg_old, mr_old, mw_old, mg_steps, mp_steps, mg_mostSteps, mp_mostSteps, mg_rounds, mp_rounds, mg_passes, mp_passes, mg_branches, mp_branches, mg_worth, mr_worth, mw_worth, nI_1, md_si_si]
      rw [e_Md_scan_77]
      exact hih
    unfold sp_bl
    simp (disch := first | exact ev_ok_i _ | exact ev_ok_r _ | exact ev_ok_n | omega | assumption) only [e_Md_scan_0, e_Md_scan_1, e_Md_scan_4, e_Md_scan_5, e_Md_scan_8, e_Md_scan_11, e_Md_scan_12, e_Md_scan_15, e_Md_scan_16, e_Md_scan_19, e_Md_scan_20, e_Md_scan_22, e_Md_scan_25, e_Md_scan_26, e_Md_scan_29, e_Md_scan_30, e_Md_scan_33, e_Md_scan_34, e_Md_scan_36, e_Md_scan_39, e_Md_scan_40, e_Md_scan_43, e_Md_scan_44, e_Md_scan_47, e_Md_scan_48, e_Md_scan_50, e_Md_scan_53, e_Md_scan_54, e_Md_scan_57, e_Md_scan_58, e_Md_scan_61, e_Md_scan_62, e_Md_scan_64, ev_rm_n, ev_rm_i, ev_rm_r, ev_rm_l, ev_ok_n, ev_ok_i, ev_ok_r, Option.toList_some, Option.toList_none, List.cons_append, List.nil_append, true_and, and_true, true_or, or_true, reduceIte, Nat.reduceEqDiff, if_true, if_false, md_rc, md_si_1, md_si_2, md_sa_1, md_sa_2, mg_kind, mr_kind, mw_kind, mg_one, mr_one, mw_one, mg_two, mr_two, mw_two, mg_variables, mp_variables, mg_inputs, mp_inputs, mg_inputOf, mr_inputOf, mw_inputOf, mg_nameSign, mr_nameSign, mw_nameSign, mg_nameSize, mr_nameSize, mw_nameSize, mg_label, mr_label, mw_label, mg_isContrary, mp_isContrary, mg_text, mr_text, mw_text, mg_textSize, mp_textSize, mg_at, mp_at, mg_token, mp_token, mg_tokenAt, mp_tokenAt, mg_tokenSize, mp_tokenSize, mg_scanned, mp_scanned, mg_fault, mp_fault, mg_faultAt, mp_faultAt, mg_place, mp_place, mg_open, mp_open, mg_level, mr_level, mw_level, mg_stage, mr_stage, mw_stage, mg_held, mr_held, mw_held, mg_signPlace, mr_signPlace, mw_signPlace, mg_value, mp_value, mg_row, mr_row, mw_row, mg_contrary, mr_contrary, mw_contrary, mg_firstRow, mr_firstRow, mw_firstRow, mg_firstContrary, mr_firstContrary, mw_firstContrary, mg_depthOf, mr_depthOf, mw_depthOf, mg_phase, mr_phase, mw_phase, mg_tried, mr_tried, mw_tried, mg_before, mr_before, mw_before, mg_old, mr_old, mw_old, mg_steps, mp_steps, mg_mostSteps, mp_mostSteps, mg_rounds, mp_rounds, mg_passes, mp_passes, mg_branches, mp_branches, mg_worth, mr_worth, mw_worth, h11, nI_leI, hle, xo_in, nI_clamp, hq]
    by_cases a0 : x.1 p = 9
    · simp only [sp_blank, a0, true_or, if_true]; exact key
    · by_cases a1 : x.1 p = 10
      · simp only [sp_blank, a0, a1, true_or, or_true, if_true, if_false]; exact key
      · by_cases a2 : x.1 p = 13
        · simp only [sp_blank, a0, a1, a2, true_or, or_true, if_true, if_false]; exact key
        · by_cases a3 : x.1 p = 32
          · simp only [sp_blank, a0, a1, a2, a3, not_true_eq_false, or_true, if_true, if_false]; exact key
          · simp only [sp_blank, a0, a1, a2, a3, not_false_eq_true, or_self, if_true, if_false]
theorem zi_n0 (p : Prop) [Decidable p] : (¬ zi p = 0) = p := by unfold zi; split <;> simp_all
theorem c_scan_we {s : Nat} (hx : md_xR σ x) (hn : x.2 ≤ 3000) (h12 : σ.1 12 = nI s) {l1 : Option Value} : ∀ (m k : Nat), s + k + m = x.2 → (ev_R X (d + 1) m_Md_scan 140 [some (.ref B), l1] [] (md_put B (md_si σ 15 (nI k)) g) Q ↔ ev_R X (d + 1) m_Md_scan 191 [some (.ref B), l1] [] (md_put B (md_si σ 15 (nI (sp_we x m (s + k) - s))) g) Q) := by
  intro m
  induction m with
  | zero =>
    intro k hp
    have hs := fun Q => c_signAt (X := X) (d := d) (B := B) (g := g) (Q := Q) (σ := md_si σ 15 (nI k)) (x := x) (k := s + k) hx hn (by omega)
    have e : sp_sg x (s + k) = -1 := by unfold sp_sg; rw [if_neg (by omega)]
    rw [e] at hs
    have f1 : ¬ sp_small (-1) := by decide
    have f2 : ¬ sp_digit (-1) := by decide
    have f1' : ¬ ((97 : Int32) ≤ -1 ∧ (-1 : Int32) ≤ 122) := by decide
    unfold sp_we
    rw [show s + k - s = k by omega]
    simp (disch := first | exact ev_ok_i _ | exact ev_ok_r _ | exact ev_ok_n | omega | assumption) only [e_Md_scan_140, e_Md_scan_141, e_Md_scan_142, e_Md_scan_145, e_Md_scan_146, e_Md_scan_149, e_Md_scan_150, e_Md_scan_153, e_Md_scan_156, e_Md_scan_159, e_Md_scan_160, e_Md_scan_161, e_Md_scan_164, e_Md_scan_165, e_Md_scan_168, e_Md_scan_169, e_Md_scan_172, e_Md_scan_175, ev_rm_n, ev_rm_i, ev_rm_r, ev_rm_l, ev_ok_n, ev_ok_i, ev_ok_r, Option.toList_some, Option.toList_none, List.cons_append, List.nil_append, true_and, and_true, true_or, or_true, reduceIte, Nat.reduceEqDiff, if_true, if_false, md_rc, md_si_1, md_si_2, md_sa_1, md_sa_2, mg_kind, mr_kind, mw_kind, mg_one, mr_one, mw_one, mg_two, mr_two, mw_two, mg_variables, mp_variables, mg_inputs, mp_inputs, mg_inputOf, mr_inputOf, mw_inputOf, mg_nameSign, mr_nameSign, mw_nameSign, mg_nameSize, mr_nameSize, mw_nameSize, mg_label, mr_label, mw_label, mg_isContrary, mp_isContrary, mg_text, mr_text, mw_text, mg_textSize, mp_textSize, mg_at, mp_at, mg_token, mp_token, mg_tokenAt, mp_tokenAt, mg_tokenSize, mp_tokenSize, mg_scanned, mp_scanned, mg_fault, mp_fault, mg_faultAt, mp_faultAt, mg_place, mp_place, mg_open, mp_open, mg_level, mr_level, mw_level, mg_stage, mr_stage, mw_stage, mg_held, mr_held, mw_held, mg_signPlace, mr_signPlace, mw_signPlace, mg_value, mp_value, mg_row, mr_row, mw_row, mg_contrary, mr_contrary, mw_contrary, mg_firstRow, mr_firstRow, mw_firstRow, mg_firstContrary, mr_firstContrary, mw_firstContrary, mg_depthOf, mr_depthOf, mw_depthOf, mg_phase, mr_phase, mw_phase, mg_tried, mr_tried, mw_tried, mg_before, mr_before, mw_before, mg_old, mr_old, mw_old, mg_steps, mp_steps, mg_mostSteps, mp_mostSteps, mg_rounds, mp_rounds, mg_passes, mp_passes, mg_branches, mp_branches, mg_worth, mr_worth, mw_worth, h12, nI_add, hs, c_isSmall, c_isDigit, zi_0, f1', f2, not_true_eq_false, not_false_eq_true]
  | succ m ih =>
    intro k hp
    have hih := ih (k + 1) (by omega)
    have hs := fun Q => c_signAt (X := X) (d := d) (B := B) (g := g) (Q := Q) (σ := md_si σ 15 (nI k)) (x := x) (k := s + k) hx hn (by omega)
    have e : sp_sg x (s + k) = x.1 (s + k) := by unfold sp_sg; rw [if_pos (by omega)]
    rw [e] at hs
    have key : ev_R X (d + 1) m_Md_scan 178 [some (.ref B), l1] [] (md_put B (md_si σ 15 (nI k)) g) Q ↔ ev_R X (d + 1) m_Md_scan 191 [some (.ref B), l1] [] (md_put B (md_si σ 15 (nI (sp_we x m (s + k + 1) - s))) g) Q := by
      simp (disch := first | exact ev_ok_i _ | exact ev_ok_r _ | exact ev_ok_n | omega | assumption) only [e_Md_scan_178, e_Md_scan_179, e_Md_scan_180, e_Md_scan_183, e_Md_scan_184, e_Md_scan_185, ev_rm_n, ev_rm_i, ev_rm_r, ev_rm_l, ev_ok_n, ev_ok_i, ev_ok_r, Option.toList_some, Option.toList_none, List.cons_append, List.nil_append, true_and, and_true, true_or, or_true, reduceIte, Nat.reduceEqDiff, if_true, if_false, md_rc, md_si_1, md_si_2, md_sa_1, md_sa_2, mg_kind, mr_kind, mw_kind, mg_one, mr_one, mw_one, mg_two, mr_two, mw_two, mg_variables, mp_variables, mg_inputs, mp_inputs, mg_inputOf, mr_inputOf, mw_inputOf, mg_nameSign, mr_nameSign, mw_nameSign, mg_nameSize, mr_nameSize, mw_nameSize, mg_label, mr_label, mw_label, mg_isContrary, mp_isContrary, mg_text, mr_text, mw_text, mg_textSize, mp_textSize, mg_at, mp_at, mg_token, mp_token, mg_tokenAt, mp_tokenAt, mg_tokenSize, mp_tokenSize, mg_scanned, mp_scanned, mg_fault, mp_fault, mg_faultAt, mp_faultAt, mg_place, mp_place, mg_open, mp_open, mg_level, mr_level, mw_level, mg_stage, mr_stage, mw_stage, mg_held, mr_held, mw_held, mg_signPlace, mr_signPlace, mw_signPlace, mg_value, mp_value, mg_row, mr_row, mw_row, mg_contrary, mr_contrary, mw_contrary, mg_firstRow, mr_firstRow, mw_firstRow, mg_firstContrary, mr_firstContrary, mw_firstContrary, mg_depthOf, mr_depthOf, mw_depthOf, mg_phase, mr_phase, mw_phase, mg_tried, mr_tried, mw_tried, mg_before, mr_before, mw_before, mg_old, mr_old, mw_old, mg_steps, mp_steps, mg_mostSteps, mp_mostSteps, mg_rounds, mp_rounds, mg_passes, mp_passes, mg_branches, mp_branches, mg_worth, mr_worth, mw_worth, nI_1, md_si_si]
      rw [e_Md_scan_188]
      exact hih
    unfold sp_we
    simp (disch := first | exact ev_ok_i _ | exact ev_ok_r _ | exact ev_ok_n | omega | assumption) only [e_Md_scan_140, e_Md_scan_141, e_Md_scan_142, e_Md_scan_145, e_Md_scan_146, e_Md_scan_149, e_Md_scan_150, e_Md_scan_153, e_Md_scan_156, e_Md_scan_159, e_Md_scan_160, e_Md_scan_161, e_Md_scan_164, e_Md_scan_165, e_Md_scan_168, e_Md_scan_169, e_Md_scan_172, e_Md_scan_175, ev_rm_n, ev_rm_i, ev_rm_r, ev_rm_l, ev_ok_n, ev_ok_i, ev_ok_r, Option.toList_some, Option.toList_none, List.cons_append, List.nil_append, true_and, and_true, true_or, or_true, reduceIte, Nat.reduceEqDiff, if_true, if_false, md_rc, md_si_1, md_si_2, md_sa_1, md_sa_2, mg_kind, mr_kind, mw_kind, mg_one, mr_one, mw_one, mg_two, mr_two, mw_two, mg_variables, mp_variables, mg_inputs, mp_inputs, mg_inputOf, mr_inputOf, mw_inputOf, mg_nameSign, mr_nameSign, mw_nameSign, mg_nameSize, mr_nameSize, mw_nameSize, mg_label, mr_label, mw_label, mg_isContrary, mp_isContrary, mg_text, mr_text, mw_text, mg_textSize, mp_textSize, mg_at, mp_at, mg_token, mp_token, mg_tokenAt, mp_tokenAt, mg_tokenSize, mp_tokenSize, mg_scanned, mp_scanned, mg_fault, mp_fault, mg_faultAt, mp_faultAt, mg_place, mp_place, mg_open, mp_open, mg_level, mr_level, mw_level, mg_stage, mr_stage, mw_stage, mg_held, mr_held, mw_held, mg_signPlace, mr_signPlace, mw_signPlace, mg_value, mp_value, mg_row, mr_row, mw_row, mg_contrary, mr_contrary, mw_contrary, mg_firstRow, mr_firstRow, mw_firstRow, mg_firstContrary, mr_firstContrary, mw_firstContrary, mg_depthOf, mr_depthOf, mw_depthOf, mg_phase, mr_phase, mw_phase, mg_tried, mr_tried, mw_tried, mg_before, mr_before, mw_before, mg_old, mr_old, mw_old, mg_steps, mp_steps, mg_mostSteps, mp_mostSteps, mg_rounds, mp_rounds, mg_passes, mp_passes, mg_branches, mp_branches, mg_worth, mr_worth, mw_worth, h12, nI_add, hs, c_isSmall, c_isDigit, zi_0]
    by_cases a0 : sp_small (x.1 (s + k))
    · have a0' : 97 ≤ x.1 (s + k) ∧ x.1 (s + k) ≤ 122 := a0
      simp only [sp_small, sp_digit, a0', true_or, not_true_eq_false, not_false_eq_true, if_true, and_self]; exact key
    · have a0' : ¬ (97 ≤ x.1 (s + k) ∧ x.1 (s + k) ≤ 122) := a0
      by_cases a1 : sp_digit (x.1 (s + k))
      · have a1' : 48 ≤ x.1 (s + k) ∧ x.1 (s + k) ≤ 57 := a1
        simp only [sp_small, sp_digit, a0', a1', or_true, not_true_eq_false, not_false_eq_true, if_true, if_false, and_self]; exact key
      · have a1' : ¬ (48 ≤ x.1 (s + k) ∧ x.1 (s + k) ≤ 57) := a1
        simp only [sp_small, sp_digit, a0', a1', or_self, not_true_eq_false, not_false_eq_true, if_true, if_false]
        rw [show s + k - s = k by omega]
end M20
