/-! READING: names; the reference's inputAt -/
abbrev sp_nq (c : sp_C) (x : sp_X) (st sz i : Nat) : Prop := cS c i = sz ∧ ∀ k, k < sz → cM c i k = x.1 (st + k)
def sp_inp (c : sp_C) (x : sp_X) (st sz : Nat) : Option Nat := sp_fd (fun i => decide (sp_nq c x st sz i)) 0 (cI c)
/-- a new input -/
def sp_ai (c : sp_C) (x : sp_X) (st sz : Nat) : sp_C := (cN c + 1, va_up (cK c) (cN c) 1, va_up (cA c) (cN c) (cI c), va_up (cB c) (cN c) 0, cI c + 1, va_up (cV c) (cI c) (cN c), va_up (cM c) (cI c) (fun k => x.1 (st + k)), va_up (cS c) (cI c) sz)
def sp_name (x : sp_X) (s : sp_P) : Nat × sp_P := match sp_inp (pC s) x (tS x s) (tZ x s) with
  | some i => (2 * cV (pC s) i, s)
  | none => if cI (pC s) = 24 then (0, sp_fail s 4 (tS x s)) else if cN (pC s) = 120 then (0, sp_fail s 5 (tS x s)) else (2 * cN (pC s), (s.1, s.2.1, pO s, sp_ai (pC s) x (tS x s) (tZ x s)))
theorem sp_ai_ok {c : sp_C} {x : sp_X} {st sz : Nat} (h : sp_cok c) (hn : cN c < 120) (hi : cI c < 24) (hz : sz ≤ 6) : sp_cok (sp_ai c x st sz) := by
  obtain ⟨⟨h1, h2, h3⟩, h4, h5, h6⟩ := h
  refine ⟨⟨by show 1 ≤ cN c + 1; omega, by show cN c + 1 ≤ 120; omega, by show cI c + 1 ≤ 24; omega⟩, fun v v1 v2 => ?_, ?_, fun i hi2 => ?_⟩
  · have v3 : v < cN c + 1 := v2
    show (va_up (cK c) (cN c) 1 v = 1 ∧ va_up (cA c) (cN c) (cI c) v < cI c + 1 ∧ va_up (cB c) (cN c) 0 v = 0) ∨ ((va_up (cK c) (cN c) 1 v = 2 ∨ va_up (cK c) (cN c) 1 v = 3) ∧ va_up (cA c) (cN c) (cI c) v < 2 * v ∧ va_up (cB c) (cN c) 0 v < 2 * v)
    by_cases e : v = cN c
    · subst e
      rw [va_up_self, va_up_self, va_up_self]
      exact Or.inl ⟨rfl, Nat.lt_succ_self _, rfl⟩
    · rw [va_up_ne _ _ e, va_up_ne _ _ e, va_up_ne _ _ e]
      rcases h4 v v1 (by omega) with h | h
      · exact Or.inl ⟨h.1, Nat.lt_succ_of_lt h.2.1, h.2.2⟩
      · exact Or.inr h
  · have e : 0 ≠ cN c := by omega
    show va_up (cK c) (cN c) 1 0 = 0 ∧ va_up (cA c) (cN c) (cI c) 0 = 0 ∧ va_up (cB c) (cN c) 0 0 = 0
    rw [va_up_ne _ _ e, va_up_ne _ _ e, va_up_ne _ _ e]
    exact h5
  · have i2 : i < cI c + 1 := hi2
    show va_up (cV c) (cI c) (cN c) i < cN c + 1 ∧ va_up (cS c) (cI c) sz i ≤ 6
    by_cases e : i = cI c
    · subst e
      rw [va_up_self, va_up_self]
      exact ⟨Nat.lt_succ_self _, hz⟩
    · rw [va_up_ne _ _ e, va_up_ne _ _ e]
      have := h6 i (by omega)
      exact ⟨Nat.lt_succ_of_lt this.1, this.2⟩
section M23
variable {X : xo_X} {d B : Nat} {σ : md_S} {g : xo_G} {Q : Option Value → xo_G → Prop} {x : sp_X} {E : sp_E} {n0 : Nat} {s : sp_P}
theorem c_in_in {c : sp_C} {st sz i : Nat} (hc : md_cR σ c) (hok : sp_cok c) (hx : md_xR σ x) (hn : x.2 ≤ 3000) (h14 : σ.1 14 = nI st) (h15 : σ.1 15 = nI sz) (hs : st + sz ≤ x.2) (hi : i < cI c) (hz : cS c i = sz) : ∀ (m k : Nat), k + m = sz → (∀ l3, ev_R X d m_Md_inputAt 80 [some (.ref B), some (.int (nI i)), some (.int (zi (∀ j, j < sz → k ≤ j → cM c i j = x.1 (st + j)))), l3] [] (md_put B σ g) Q) → ev_R X d m_Md_inputAt 31 [some (.ref B), some (.int (nI i)), some (.int 1), some (.int (nI k))] [] (md_put B σ g) Q := by
  intro m
  have h6 := (hok.2.2.2 i hi).2
  have h24 := hok.1.2.2
  induction m with
  | zero =>
    intro k hk hQ
    have hle : sz ≤ k := by omega
    have e1 : zi (∀ j, j < sz → k ≤ j → cM c i j = x.1 (st + j)) = 1 := if_pos (fun j a b => by omega)
    rw [e1] at hQ
    simp (disch := first | exact ev_ok_i _ | exact ev_ok_r _ | exact ev_ok_n | omega | assumption) only [e_Md_inputAt_31, e_Md_inputAt_32, e_Md_inputAt_33, e_Md_inputAt_36, ev_rm_n, ev_rm_i, ev_rm_r, ev_rm_l, ev_ok_n, ev_ok_i, ev_ok_r, Option.toList_some, Option.toList_none, List.cons_append, List.nil_append, true_and, and_true, true_or, or_true, reduceIte, Nat.reduceEqDiff, if_true, if_false, md_rc, md_si_1, md_si_2, md_sa_1, md_sa_2, mg_kind, mr_kind, mw_kind, mg_one, mr_one, mw_one, mg_two, mr_two, mw_two, mg_variables, mp_variables, mg_inputs, mp_inputs, mg_inputOf, mr_inputOf, mw_inputOf, mg_nameSign, mr_nameSign, mw_nameSign, mg_nameSize, mr_nameSize, mw_nameSize, mg_label, mr_label, mw_label, mg_isContrary, mp_isContrary, mg_text, mr_text, mw_text, mg_textSize, mp_textSize, mg_at, mp_at, mg_token, mp_token, mg_tokenAt, mp_tokenAt, mg_tokenSize, mp_tokenSize, mg_scanned, mp_scanned, mg_fault, mp_fault, mg_faultAt, mp_faultAt, mg_place, mp_place, mg_open, mp_open, mg_level, mr_level, mw_level, mg_stage, mr_stage, mw_stage, mg_held, mr_held, mw_held, mg_signPlace, mr_signPlace, mw_signPlace, mg_value, mp_value, mg_row, mr_row, mw_row, mg_contrary, mr_contrary, mw_contrary, mg_firstRow, mr_firstRow, mw_firstRow, mg_firstContrary, mr_firstContrary, mw_firstContrary, mg_depthOf, mr_depthOf, mw_depthOf, mg_phase, mr_phase, mw_phase, mg_tried, mr_tried, mw_tried, mg_before, mr_before, mw_before, mg_old, mr_old, mw_old, mg_steps, mp_steps, mg_mostSteps, mp_mostSteps, mg_rounds, mp_rounds, mg_passes, mp_passes, mg_branches, mp_branches, mg_worth, mr_worth, mw_worth, h15, nI_leI, hle]
    exact hQ _
  | succ m ih =>
    intro k hk hQ
    have hle : ¬ sz ≤ k := by omega
    have q1 := (hc.2.2 i hi).2.2 k (by omega)
    have q2 := hx.2 (st + k) (by omega)
    simp (disch := first | exact ev_ok_i _ | exact ev_ok_r _ | exact ev_ok_n | omega | assumption) only [e_Md_inputAt_31, e_Md_inputAt_32, e_Md_inputAt_33, e_Md_inputAt_36, e_Md_inputAt_39, e_Md_inputAt_40, e_Md_inputAt_43, e_Md_inputAt_44, e_Md_inputAt_47, e_Md_inputAt_49, e_Md_inputAt_50, e_Md_inputAt_51, e_Md_inputAt_52, e_Md_inputAt_53, e_Md_inputAt_54, e_Md_inputAt_55, e_Md_inputAt_58, e_Md_inputAt_59, e_Md_inputAt_62, e_Md_inputAt_63, e_Md_inputAt_64, e_Md_inputAt_65, ev_rm_n, ev_rm_i, ev_rm_r, ev_rm_l, ev_ok_n, ev_ok_i, ev_ok_r, Option.toList_some, Option.toList_none, List.cons_append, List.nil_append, true_and, and_true, true_or, or_true, reduceIte, Nat.reduceEqDiff, if_true, if_false, md_rc, md_si_1, md_si_2, md_sa_1, md_sa_2, mg_kind, mr_kind, mw_kind, mg_one, mr_one, mw_one, mg_two, mr_two, mw_two, mg_variables, mp_variables, mg_inputs, mp_inputs, mg_inputOf, mr_inputOf, mw_inputOf, mg_nameSign, mr_nameSign, mw_nameSign, mg_nameSize, mr_nameSize, mw_nameSize, mg_label, mr_label, mw_label, mg_isContrary, mp_isContrary, mg_text, mr_text, mw_text, mg_textSize, mp_textSize, mg_at, mp_at, mg_token, mp_token, mg_tokenAt, mp_tokenAt, mg_tokenSize, mp_tokenSize, mg_scanned, mp_scanned, mg_fault, mp_fault, mg_faultAt, mp_faultAt, mg_place, mp_place, mg_open, mp_open, mg_level, mr_level, mw_level, mg_stage, mr_stage, mw_stage, mg_held, mr_held, mw_held, mg_signPlace, mr_signPlace, mw_signPlace, mg_value, mp_value, mg_row, mr_row, mw_row, mg_contrary, mr_contrary, mw_contrary, mg_firstRow, mr_firstRow, mw_firstRow, mg_firstContrary, mr_firstContrary, mw_firstContrary, mg_depthOf, mr_depthOf, mw_depthOf, mg_phase, mr_phase, mw_phase, mg_tried, mr_tried, mw_tried, mg_before, mr_before, mw_before, mg_old, mr_old, mw_old, mg_steps, mp_steps, mg_mostSteps, mp_mostSteps, mg_rounds, mp_rounds, mg_passes, mp_passes, mg_branches, mp_branches, mg_worth, mr_worth, mw_worth, h14, h15, nI_leI, hle, i_10, nL_6, nI_add, xo_in, nI_clamp, q1, q2]
    by_cases he : cM c i k = x.1 (st + k)
    · simp (disch := first | exact ev_ok_i _ | exact ev_ok_r _ | exact ev_ok_n | omega | assumption) only [he, not_true_eq_false, e_Md_inputAt_68, e_Md_inputAt_69, e_Md_inputAt_72, e_Md_inputAt_73, e_Md_inputAt_74, ev_rm_n, ev_rm_i, ev_rm_r, ev_rm_l, ev_ok_n, ev_ok_i, ev_ok_r, Option.toList_some, Option.toList_none, List.cons_append, List.nil_append, true_and, and_true, true_or, or_true, reduceIte, Nat.reduceEqDiff, if_true, if_false, nI_1]
      rw [e_Md_inputAt_77]
      refine ih (k + 1) (by omega) (fun l3 => ?_)
      have e2 : zi (∀ j, j < sz → k ≤ j → cM c i j = x.1 (st + j)) = zi (∀ j, j < sz → k + 1 ≤ j → cM c i j = x.1 (st + j)) := by
        unfold zi
        have : (∀ j, j < sz → k ≤ j → cM c i j = x.1 (st + j)) ↔ (∀ j, j < sz → k + 1 ≤ j → cM c i j = x.1 (st + j)) := ⟨fun h j a b => h j a (by omega), fun h j a b => by
          by_cases e : j = k
          · subst e; exact he
          · exact h j a (by omega)⟩
        simp only [this]
      have := hQ l3
      rw [e2] at this
      exact this
    · have e2 : zi (∀ j, j < sz → k ≤ j → cM c i j = x.1 (st + j)) = 0 := if_neg (fun h => he (h k (by omega) (Nat.le_refl k)))
      rw [e2] at hQ
      have hq3 := hQ
      by_cases hlast : sz ≤ k + 1
      · simp (disch := first | exact ev_ok_i _ | exact ev_ok_r _ | exact ev_ok_n | omega | assumption) only [he, not_false_eq_true, e_Md_inputAt_72, e_Md_inputAt_73, e_Md_inputAt_74, ev_rm_n, ev_rm_i, ev_rm_r, ev_rm_l, ev_ok_n, ev_ok_i, ev_ok_r, Option.toList_some, Option.toList_none, List.cons_append, List.nil_append, true_and, and_true, true_or, or_true, reduceIte, Nat.reduceEqDiff, if_true, if_false, nI_1]
        rw [e_Md_inputAt_77]
        simp (disch := first | exact ev_ok_i _ | exact ev_ok_r _ | exact ev_ok_n | omega | assumption) only [e_Md_inputAt_31, e_Md_inputAt_32, e_Md_inputAt_33, e_Md_inputAt_36, ev_rm_n, ev_rm_i, ev_rm_r, ev_rm_l, ev_ok_n, ev_ok_i, ev_ok_r, Option.toList_some, Option.toList_none, List.cons_append, List.nil_append, true_and, and_true, true_or, or_true, reduceIte, Nat.reduceEqDiff, if_true, if_false, md_rc, md_si_1, md_si_2, md_sa_1, md_sa_2, mg_kind, mr_kind, mw_kind, mg_one, mr_one, mw_one, mg_two, mr_two, mw_two, mg_variables, mp_variables, mg_inputs, mp_inputs, mg_inputOf, mr_inputOf, mw_inputOf, mg_nameSign, mr_nameSign, mw_nameSign, mg_nameSize, mr_nameSize, mw_nameSize, mg_label, mr_label, mw_label, mg_isContrary, mp_isContrary, mg_text, mr_text, mw_text, mg_textSize, mp_textSize, mg_at, mp_at, mg_token, mp_token, mg_tokenAt, mp_tokenAt, mg_tokenSize, mp_tokenSize, mg_scanned, mp_scanned, mg_fault, mp_fault, mg_faultAt, mp_faultAt, mg_place, mp_place, mg_open, mp_open, mg_level, mr_level, mw_level, mg_stage, mr_stage, mw_stage, mg_held, mr_held, mw_held, mg_signPlace, mr_signPlace, mw_signPlace, mg_value, mp_value, mg_row, mr_row, mw_row, mg_contrary, mr_contrary, mw_contrary, mg_firstRow, mr_firstRow, mw_firstRow, mg_firstContrary, mr_firstContrary, mw_firstContrary, mg_depthOf, mr_depthOf, mw_depthOf, mg_phase, mr_phase, mw_phase, mg_tried, mr_tried, mw_tried, mg_before, mr_before, mw_before, mg_old, mr_old, mw_old, mg_steps, mp_steps, mg_mostSteps, mp_mostSteps, mg_rounds, mp_rounds, mg_passes, mp_passes, mg_branches, mp_branches, mg_worth, mr_worth, mw_worth, h15, nI_leI, hlast]
        exact hQ _
      · simp (disch := first | exact ev_ok_i _ | exact ev_ok_r _ | exact ev_ok_n | omega | assumption) only [he, not_false_eq_true, e_Md_inputAt_72, e_Md_inputAt_73, e_Md_inputAt_74, ev_rm_n, ev_rm_i, ev_rm_r, ev_rm_l, ev_ok_n, ev_ok_i, ev_ok_r, Option.toList_some, Option.toList_none, List.cons_append, List.nil_append, true_and, and_true, true_or, or_true, reduceIte, Nat.reduceEqDiff, if_true, if_false, nI_1]
        rw [e_Md_inputAt_77]
        simp (disch := first | exact ev_ok_i _ | exact ev_ok_r _ | exact ev_ok_n | omega | assumption) only [e_Md_inputAt_31, e_Md_inputAt_32, e_Md_inputAt_33, e_Md_inputAt_36, e_Md_inputAt_39, e_Md_inputAt_40, ev_rm_n, ev_rm_i, ev_rm_r, ev_rm_l, ev_ok_n, ev_ok_i, ev_ok_r, Option.toList_some, Option.toList_none, List.cons_append, List.nil_append, true_and, and_true, true_or, or_true, reduceIte, Nat.reduceEqDiff, if_true, if_false, md_rc, md_si_1, md_si_2, md_sa_1, md_sa_2, mg_kind, mr_kind, mw_kind, mg_one, mr_one, mw_one, mg_two, mr_two, mw_two, mg_variables, mp_variables, mg_inputs, mp_inputs, mg_inputOf, mr_inputOf, mw_inputOf, mg_nameSign, mr_nameSign, mw_nameSign, mg_nameSize, mr_nameSize, mw_nameSize, mg_label, mr_label, mw_label, mg_isContrary, mp_isContrary, mg_text, mr_text, mw_text, mg_textSize, mp_textSize, mg_at, mp_at, mg_token, mp_token, mg_tokenAt, mp_tokenAt, mg_tokenSize, mp_tokenSize, mg_scanned, mp_scanned, mg_fault, mp_fault, mg_faultAt, mp_faultAt, mg_place, mp_place, mg_open, mp_open, mg_level, mr_level, mw_level, mg_stage, mr_stage, mw_stage, mg_held, mr_held, mw_held, mg_signPlace, mr_signPlace, mw_signPlace, mg_value, mp_value, mg_row, mr_row, mw_row, mg_contrary, mr_contrary, mw_contrary, mg_firstRow, mr_firstRow, mw_firstRow, mg_firstContrary, mr_firstContrary, mw_firstContrary, mg_depthOf, mr_depthOf, mw_depthOf, mg_phase, mr_phase, mw_phase, mg_tried, mr_tried, mw_tried, mg_before, mr_before, mw_before, mg_old, mr_old, mw_old, mg_steps, mp_steps, mg_mostSteps, mp_mostSteps, mg_rounds, mp_rounds, mg_passes, mp_passes, mg_branches, mp_branches, mg_worth, mr_worth, mw_worth, h15, nI_leI, hlast]
        exact hQ _
theorem c_in_out {c : sp_C} {st sz : Nat} (hc : md_cR σ c) (hok : sp_cok c) (hx : md_xR σ x) (hn : x.2 ≤ 3000) (h14 : σ.1 14 = nI st) (h15 : σ.1 15 = nI sz) (hs : st + sz ≤ x.2) : ∀ (m i : Nat) (l2 l3 : Option Value), i + m = cI c → (match sp_fd (fun i => decide (sp_nq c x st sz i)) i m with
    | some r => Q (some (.int (nI (2 * cV c r)))) (md_put B σ g)
    | none => ∀ l1 l2 l3, ev_R X d m_Md_inputAt 99 [some (.ref B), l1, l2, l3] [] (md_put B σ g) Q) → ev_R X d m_Md_inputAt 2 [some (.ref B), some (.int (nI i)), l2, l3] [] (md_put B σ g) Q := by
  intro m
  have h4 := hc.2.1
  have h24 := hok.1.2.2
  induction m with
  | zero =>
    intro i l2 l3 hi hQ
    have hle : cI c ≤ i := by omega
    simp (disch := first | exact ev_ok_i _ | exact ev_ok_r _ | exact ev_ok_n | omega | assumption) only [e_Md_inputAt_2, e_Md_inputAt_3, e_Md_inputAt_4, e_Md_inputAt_7, ev_rm_n, ev_rm_i, ev_rm_r, ev_rm_l, ev_ok_n, ev_ok_i, ev_ok_r, Option.toList_some, Option.toList_none, List.cons_append, List.nil_append, true_and, and_true, true_or, or_true, reduceIte, Nat.reduceEqDiff, if_true, if_false, md_rc, md_si_1, md_si_2, md_sa_1, md_sa_2, mg_kind, mr_kind, mw_kind, mg_one, mr_one, mw_one, mg_two, mr_two, mw_two, mg_variables, mp_variables, mg_inputs, mp_inputs, mg_inputOf, mr_inputOf, mw_inputOf, mg_nameSign, mr_nameSign, mw_nameSign, mg_nameSize, mr_nameSize, mw_nameSize, mg_label, mr_label, mw_label, mg_isContrary, mp_isContrary, mg_text, mr_text, mw_text, mg_textSize, mp_textSize, mg_at, mp_at, mg_token, mp_token, mg_tokenAt, mp_tokenAt, mg_tokenSize, mp_tokenSize, mg_scanned, mp_scanned, mg_fault, mp_fault, mg_faultAt, mp_faultAt, mg_place, mp_place, mg_open, mp_open, mg_level, mr_level, mw_level, mg_stage, mr_stage, mw_stage, mg_held, mr_held, mw_held, mg_signPlace, mr_signPlace, mw_signPlace, mg_value, mp_value, mg_row, mr_row, mw_row, mg_contrary, mr_contrary, mw_contrary, mg_firstRow, mr_firstRow, mw_firstRow, mg_firstContrary, mr_firstContrary, mw_firstContrary, mg_depthOf, mr_depthOf, mw_depthOf, mg_phase, mr_phase, mw_phase, mg_tried, mr_tried, mw_tried, mg_before, mr_before, mw_before, mg_old, mr_old, mw_old, mg_steps, mp_steps, mg_mostSteps, mp_mostSteps, mg_rounds, mp_rounds, mg_passes, mp_passes, mg_branches, mp_branches, mg_worth, mr_worth, mw_worth, h4, nI_leI, hle]
    exact hQ _ _ _
  | succ m ih =>
    intro i l2 l3 hi hQ
    have hlt : i < cI c := by omega
    have hle : ¬ cI c ≤ i := by omega
    obtain ⟨v1, v2, v3⟩ := hc.2.2 i hlt
    have h6 := (hok.2.2.2 i hlt).2
    have hv := (hok.2.2.2 i hlt).1
    have h120 := hok.1.2.1
    unfold sp_fd at hQ
    simp (disch := first | exact ev_ok_i _ | exact ev_ok_r _ | exact ev_ok_n | omega | assumption) only [e_Md_inputAt_2, e_Md_inputAt_3, e_Md_inputAt_4, e_Md_inputAt_7, e_Md_inputAt_10, e_Md_inputAt_11, e_Md_inputAt_14, e_Md_inputAt_15, e_Md_inputAt_16, e_Md_inputAt_17, e_Md_inputAt_20, ev_rm_n, ev_rm_i, ev_rm_r, ev_rm_l, ev_ok_n, ev_ok_i, ev_ok_r, Option.toList_some, Option.toList_none, List.cons_append, List.nil_append, true_and, and_true, true_or, or_true, reduceIte, Nat.reduceEqDiff, if_true, if_false, md_rc, md_si_1, md_si_2, md_sa_1, md_sa_2, mg_kind, mr_kind, mw_kind, mg_one, mr_one, mw_one, mg_two, mr_two, mw_two, mg_variables, mp_variables, mg_inputs, mp_inputs, mg_inputOf, mr_inputOf, mw_inputOf, mg_nameSign, mr_nameSign, mw_nameSign, mg_nameSize, mr_nameSize, mw_nameSize, mg_label, mr_label, mw_label, mg_isContrary, mp_isContrary, mg_text, mr_text, mw_text, mg_textSize, mp_textSize, mg_at, mp_at, mg_token, mp_token, mg_tokenAt, mp_tokenAt, mg_tokenSize, mp_tokenSize, mg_scanned, mp_scanned, mg_fault, mp_fault, mg_faultAt, mp_faultAt, mg_place, mp_place, mg_open, mp_open, mg_level, mr_level, mw_level, mg_stage, mr_stage, mw_stage, mg_held, mr_held, mw_held, mg_signPlace, mr_signPlace, mw_signPlace, mg_value, mp_value, mg_row, mr_row, mw_row, mg_contrary, mr_contrary, mw_contrary, mg_firstRow, mr_firstRow, mw_firstRow, mg_firstContrary, mr_firstContrary, mw_firstContrary, mg_depthOf, mr_depthOf, mw_depthOf, mg_phase, mr_phase, mw_phase, mg_tried, mr_tried, mw_tried, mg_before, mr_before, mw_before, mg_old, mr_old, mw_old, mg_steps, mp_steps, mg_mostSteps, mp_mostSteps, mg_rounds, mp_rounds, mg_passes, mp_passes, mg_branches, mp_branches, mg_worth, mr_worth, mw_worth, h4, nI_leI, hle, xo_in, nI_clamp, v2, h15, nI_eq]
    have e0 : (0 : Int32) = nI 0 := rfl
    by_cases hsz : cS c i = sz
    · simp (disch := first | exact ev_ok_i _ | exact ev_ok_r _ | exact ev_ok_n | omega | assumption) only [hsz, not_true_eq_false, e_Md_inputAt_23, e_Md_inputAt_24, e_Md_inputAt_27, e_Md_inputAt_28, e_Md_inputAt_29, e_Md_inputAt_30, ev_rm_n, ev_rm_i, ev_rm_r, ev_rm_l, ev_ok_n, ev_ok_i, ev_ok_r, Option.toList_some, Option.toList_none, List.cons_append, List.nil_append, true_and, and_true, true_or, or_true, reduceIte, Nat.reduceEqDiff, if_true, if_false]
      rw [e0]
      refine c_in_in hc hok hx hn h14 h15 hs hlt hsz sz 0 (by omega) (fun l3 => ?_)
      simp (disch := first | exact ev_ok_i _ | exact ev_ok_r _ | exact ev_ok_n | omega | assumption) only [e_Md_inputAt_80, e_Md_inputAt_81, ev_rm_n, ev_rm_i, ev_rm_r, ev_rm_l, ev_ok_n, ev_ok_i, ev_ok_r, Option.toList_some, Option.toList_none, List.cons_append, List.nil_append, true_and, and_true, true_or, or_true, reduceIte, Nat.reduceEqDiff, if_true, if_false, zi_0]
      by_cases hal : ∀ j, j < sz → 0 ≤ j → cM c i j = x.1 (st + j)
      · rw [if_neg (fun z => z hal)]
        rw [if_pos (decide_eq_true (⟨hsz, fun k hk => hal k hk (Nat.zero_le k)⟩ : sp_nq c x st sz i))] at hQ
        simp (disch := first | exact ev_ok_i _ | exact ev_ok_r _ | exact ev_ok_n | omega | assumption) only [e_Md_inputAt_84, e_Md_inputAt_85, e_Md_inputAt_86, e_Md_inputAt_89, e_Md_inputAt_90, e_Md_inputAt_91, e_Md_inputAt_92, ev_rm_n, ev_rm_i, ev_rm_r, ev_rm_l, ev_ok_n, ev_ok_i, ev_ok_r, Option.toList_some, Option.toList_none, List.cons_append, List.nil_append, true_and, and_true, true_or, or_true, reduceIte, Nat.reduceEqDiff, if_true, if_false, md_rc, md_si_1, md_si_2, md_sa_1, md_sa_2, mg_kind, mr_kind, mw_kind, mg_one, mr_one, mw_one, mg_two, mr_two, mw_two, mg_variables, mp_variables, mg_inputs, mp_inputs, mg_inputOf, mr_inputOf, mw_inputOf, mg_nameSign, mr_nameSign, mw_nameSign, mg_nameSize, mr_nameSize, mw_nameSize, mg_label, mr_label, mw_label, mg_isContrary, mp_isContrary, mg_text, mr_text, mw_text, mg_textSize, mp_textSize, mg_at, mp_at, mg_token, mp_token, mg_tokenAt, mp_tokenAt, mg_tokenSize, mp_tokenSize, mg_scanned, mp_scanned, mg_fault, mp_fault, mg_faultAt, mp_faultAt, mg_place, mp_place, mg_open, mp_open, mg_level, mr_level, mw_level, mg_stage, mr_stage, mw_stage, mg_held, mr_held, mw_held, mg_signPlace, mr_signPlace, mw_signPlace, mg_value, mp_value, mg_row, mr_row, mw_row, mg_contrary, mr_contrary, mw_contrary, mg_firstRow, mr_firstRow, mw_firstRow, mg_firstContrary, mr_firstContrary, mw_firstContrary, mg_depthOf, mr_depthOf, mw_depthOf, mg_phase, mr_phase, mw_phase, mg_tried, mr_tried, mw_tried, mg_before, mr_before, mw_before, mg_old, mr_old, mw_old, mg_steps, mp_steps, mg_mostSteps, mp_mostSteps, mg_rounds, mp_rounds, mg_passes, mp_passes, mg_branches, mp_branches, mg_worth, mr_worth, mw_worth, xo_in, nI_clamp, v1, nL_2]
        exact hQ
      · rw [if_pos hal]
        rw [if_neg (fun z => hal (fun j hj _ => (of_decide_eq_true z).2 j hj))] at hQ
        simp (disch := first | exact ev_ok_i _ | exact ev_ok_r _ | exact ev_ok_n | omega | assumption) only [e_Md_inputAt_93, ev_rm_n, ev_rm_i, ev_rm_r, ev_rm_l, ev_ok_n, ev_ok_i, ev_ok_r, Option.toList_some, Option.toList_none, List.cons_append, List.nil_append, true_and, and_true, true_or, or_true, reduceIte, Nat.reduceEqDiff, if_true, if_false, nI_1]
        rw [e_Md_inputAt_96]
        exact ih (i + 1) _ _ (by omega) hQ
    · rw [if_neg (fun z => hsz (of_decide_eq_true z).1)] at hQ
      have key : ∀ l3, ev_R X d m_Md_inputAt 80 [some (.ref B), some (.int (nI i)), some (.int 0), l3] [] (md_put B σ g) Q := fun l3 => by
        simp (disch := first | exact ev_ok_i _ | exact ev_ok_r _ | exact ev_ok_n | omega | assumption) only [e_Md_inputAt_80, e_Md_inputAt_81, e_Md_inputAt_93, ev_rm_n, ev_rm_i, ev_rm_r, ev_rm_l, ev_ok_n, ev_ok_i, ev_ok_r, Option.toList_some, Option.toList_none, List.cons_append, List.nil_append, true_and, and_true, true_or, or_true, reduceIte, Nat.reduceEqDiff, if_true, if_false, nI_1]
        rw [e_Md_inputAt_96]
        exact ih (i + 1) _ _ (by omega) hQ
      simp (disch := first | exact ev_ok_i _ | exact ev_ok_r _ | exact ev_ok_n | omega | assumption) only [hsz, not_false_eq_true, e_Md_inputAt_27, e_Md_inputAt_28, e_Md_inputAt_29, e_Md_inputAt_30, ev_rm_n, ev_rm_i, ev_rm_r, ev_rm_l, ev_ok_n, ev_ok_i, ev_ok_r, Option.toList_some, Option.toList_none, List.cons_append, List.nil_append, true_and, and_true, true_or, or_true, reduceIte, Nat.reduceEqDiff, if_true, if_false]
      rw [e0]
      by_cases hz0 : sz ≤ 0
      · simp (disch := first | exact ev_ok_i _ | exact ev_ok_r _ | exact ev_ok_n | omega | assumption) only [e_Md_inputAt_31, e_Md_inputAt_32, e_Md_inputAt_33, e_Md_inputAt_36, ev_rm_n, ev_rm_i, ev_rm_r, ev_rm_l, ev_ok_n, ev_ok_i, ev_ok_r, Option.toList_some, Option.toList_none, List.cons_append, List.nil_append, true_and, and_true, true_or, or_true, reduceIte, Nat.reduceEqDiff, if_true, if_false, md_rc, md_si_1, md_si_2, md_sa_1, md_sa_2, mg_kind, mr_kind, mw_kind, mg_one, mr_one, mw_one, mg_two, mr_two, mw_two, mg_variables, mp_variables, mg_inputs, mp_inputs, mg_inputOf, mr_inputOf, mw_inputOf, mg_nameSign, mr_nameSign, mw_nameSign, mg_nameSize, mr_nameSize, mw_nameSize, mg_label, mr_label, mw_label, mg_isContrary, mp_isContrary, mg_text, mr_text, mw_text, mg_textSize, mp_textSize, mg_at, mp_at, mg_token, mp_token, mg_tokenAt, mp_tokenAt, mg_tokenSize, mp_tokenSize, mg_scanned, mp_scanned, mg_fault, mp_fault, mg_faultAt, mp_faultAt, mg_place, mp_place, mg_open, mp_open, mg_level, mr_level, mw_level, mg_stage, mr_stage, mw_stage, mg_held, mr_held, mw_held, mg_signPlace, mr_signPlace, mw_signPlace, mg_value, mp_value, mg_row, mr_row, mw_row, mg_contrary, mr_contrary, mw_contrary, mg_firstRow, mr_firstRow, mw_firstRow, mg_firstContrary, mr_firstContrary, mw_firstContrary, mg_depthOf, mr_depthOf, mw_depthOf, mg_phase, mr_phase, mw_phase, mg_tried, mr_tried, mw_tried, mg_before, mr_before, mw_before, mg_old, mr_old, mw_old, mg_steps, mp_steps, mg_mostSteps, mp_mostSteps, mg_rounds, mp_rounds, mg_passes, mp_passes, mg_branches, mp_branches, mg_worth, mr_worth, mw_worth, h15, nI_leI, hz0]
        exact key _
      · simp (disch := first | exact ev_ok_i _ | exact ev_ok_r _ | exact ev_ok_n | omega | assumption) only [e_Md_inputAt_31, e_Md_inputAt_32, e_Md_inputAt_33, e_Md_inputAt_36, e_Md_inputAt_39, e_Md_inputAt_40, ev_rm_n, ev_rm_i, ev_rm_r, ev_rm_l, ev_ok_n, ev_ok_i, ev_ok_r, Option.toList_some, Option.toList_none, List.cons_append, List.nil_append, true_and, and_true, true_or, or_true, reduceIte, Nat.reduceEqDiff, if_true, if_false, md_rc, md_si_1, md_si_2, md_sa_1, md_sa_2, mg_kind, mr_kind, mw_kind, mg_one, mr_one, mw_one, mg_two, mr_two, mw_two, mg_variables, mp_variables, mg_inputs, mp_inputs, mg_inputOf, mr_inputOf, mw_inputOf, mg_nameSign, mr_nameSign, mw_nameSign, mg_nameSize, mr_nameSize, mw_nameSize, mg_label, mr_label, mw_label, mg_isContrary, mp_isContrary, mg_text, mr_text, mw_text, mg_textSize, mp_textSize, mg_at, mp_at, mg_token, mp_token, mg_tokenAt, mp_tokenAt, mg_tokenSize, mp_tokenSize, mg_scanned, mp_scanned, mg_fault, mp_fault, mg_faultAt, mp_faultAt, mg_place, mp_place, mg_open, mp_open, mg_level, mr_level, mw_level, mg_stage, mr_stage, mw_stage, mg_held, mr_held, mw_held, mg_signPlace, mr_signPlace, mw_signPlace, mg_value, mp_value, mg_row, mr_row, mw_row, mg_contrary, mr_contrary, mw_contrary, mg_firstRow, mr_firstRow, mw_firstRow, mg_firstContrary, mr_firstContrary, mw_firstContrary, mg_depthOf, mr_depthOf, mw_depthOf, mg_phase, mr_phase, mw_phase, mg_tried, mr_tried, mw_tried, mg_before, mr_before, mw_before, mg_old, mr_old, mw_old, mg_steps, mp_steps, mg_mostSteps, mp_mostSteps, mg_rounds, mp_rounds, mg_passes, mp_passes, mg_branches, mp_branches, mg_worth, mr_worth, mw_worth, h15, nI_leI, hz0]
        exact key _
/-- the new name's signs -/
def md_nn (σ : md_S) (x : sp_X) (st i k : Nat) : md_S := md_fi σ 6 (fun j => x.1 (st + (j - 6 * i))) (6 * i) (6 * i + k)
theorem c_in_nn {st sz i : Nat} (h4 : σ.1 4 = nI i) (hi : i < 24) (hx : md_xR σ x) (hn : x.2 ≤ 3000) (h14 : σ.1 14 = nI st) (h15 : σ.1 15 = nI sz) (hs : st + sz ≤ x.2) (h6 : sz ≤ 6) {l2 l3 : Option Value} : ∀ (m k : Nat), k + m = sz → (ev_R X d m_Md_inputAt 144 [some (.ref B), some (.int (nI k)), l2, l3] [] (md_put B (md_nn σ x st i k) g) Q ↔ ev_R X d m_Md_inputAt 183 [some (.ref B), some (.int (nI sz)), l2, l3] [] (md_put B (md_nn σ x st i sz) g) Q) := by
  intro m
  have k1 : ∀ k, (md_nn σ x st i k).1 = σ.1 := fun _ => rfl
  have k2 : ∀ k, (md_nn σ x st i k).2 10 = σ.2 10 := fun _ => rfl
  induction m with
  | zero =>
    intro k hk
    have e : k = sz := by omega
    subst e
    simp (disch := first | exact ev_ok_i _ | exact ev_ok_r _ | exact ev_ok_n | omega | assumption) only [e_Md_inputAt_144, e_Md_inputAt_145, e_Md_inputAt_146, e_Md_inputAt_149, ev_rm_n, ev_rm_i, ev_rm_r, ev_rm_l, ev_ok_n, ev_ok_i, ev_ok_r, Option.toList_some, Option.toList_none, List.cons_append, List.nil_append, true_and, and_true, true_or, or_true, reduceIte, Nat.reduceEqDiff, if_true, if_false, md_rc, md_si_1, md_si_2, md_sa_1, md_sa_2, mg_kind, mr_kind, mw_kind, mg_one, mr_one, mw_one, mg_two, mr_two, mw_two, mg_variables, mp_variables, mg_inputs, mp_inputs, mg_inputOf, mr_inputOf, mw_inputOf, mg_nameSign, mr_nameSign, mw_nameSign, mg_nameSize, mr_nameSize, mw_nameSize, mg_label, mr_label, mw_label, mg_isContrary, mp_isContrary, mg_text, mr_text, mw_text, mg_textSize, mp_textSize, mg_at, mp_at, mg_token, mp_token, mg_tokenAt, mp_tokenAt, mg_tokenSize, mp_tokenSize, mg_scanned, mp_scanned, mg_fault, mp_fault, mg_faultAt, mp_faultAt, mg_place, mp_place, mg_open, mp_open, mg_level, mr_level, mw_level, mg_stage, mr_stage, mw_stage, mg_held, mr_held, mw_held, mg_signPlace, mr_signPlace, mw_signPlace, mg_value, mp_value, mg_row, mr_row, mw_row, mg_contrary, mr_contrary, mw_contrary, mg_firstRow, mr_firstRow, mw_firstRow, mg_firstContrary, mr_firstContrary, mw_firstContrary, mg_depthOf, mr_depthOf, mw_depthOf, mg_phase, mr_phase, mw_phase, mg_tried, mr_tried, mw_tried, mg_before, mr_before, mw_before, mg_old, mr_old, mw_old, mg_steps, mp_steps, mg_mostSteps, mp_mostSteps, mg_rounds, mp_rounds, mg_passes, mp_passes, mg_branches, mp_branches, mg_worth, mr_worth, mw_worth, k1, h15, nI_leI, Nat.le_refl]
  | succ m ih =>
    intro k hk
    have hle : ¬ sz ≤ k := by omega
    have hih := ih (k + 1) (by omega)
    have q2 := hx.2 (st + k) (by omega)
    have hsx : md_sa (md_nn σ x st i k) 6 (6 * i + k) (x.1 (st + k)) = md_nn σ x st i (k + 1) := md_fi_s σ 6 _ (Nat.le_add_right _ _) (by rw [show 6 * i + k - 6 * i = k by omega])
    simp (disch := first | exact ev_ok_i _ | exact ev_ok_r _ | exact ev_ok_n | omega | assumption) only [e_Md_inputAt_144, e_Md_inputAt_145, e_Md_inputAt_146, e_Md_inputAt_149, e_Md_inputAt_152, e_Md_inputAt_153, e_Md_inputAt_156, e_Md_inputAt_158, e_Md_inputAt_159, e_Md_inputAt_162, e_Md_inputAt_163, e_Md_inputAt_164, e_Md_inputAt_165, e_Md_inputAt_166, e_Md_inputAt_169, e_Md_inputAt_170, e_Md_inputAt_173, e_Md_inputAt_174, e_Md_inputAt_175, e_Md_inputAt_176, e_Md_inputAt_177, ev_rm_n, ev_rm_i, ev_rm_r, ev_rm_l, ev_ok_n, ev_ok_i, ev_ok_r, Option.toList_some, Option.toList_none, List.cons_append, List.nil_append, true_and, and_true, true_or, or_true, reduceIte, Nat.reduceEqDiff, if_true, if_false, md_rc, md_si_1, md_si_2, md_sa_1, md_sa_2, mg_kind, mr_kind, mw_kind, mg_one, mr_one, mw_one, mg_two, mr_two, mw_two, mg_variables, mp_variables, mg_inputs, mp_inputs, mg_inputOf, mr_inputOf, mw_inputOf, mg_nameSign, mr_nameSign, mw_nameSign, mg_nameSize, mr_nameSize, mw_nameSize, mg_label, mr_label, mw_label, mg_isContrary, mp_isContrary, mg_text, mr_text, mw_text, mg_textSize, mp_textSize, mg_at, mp_at, mg_token, mp_token, mg_tokenAt, mp_tokenAt, mg_tokenSize, mp_tokenSize, mg_scanned, mp_scanned, mg_fault, mp_fault, mg_faultAt, mp_faultAt, mg_place, mp_place, mg_open, mp_open, mg_level, mr_level, mw_level, mg_stage, mr_stage, mw_stage, mg_held, mr_held, mw_held, mg_signPlace, mr_signPlace, mw_signPlace, mg_value, mp_value, mg_row, mr_row, mw_row, mg_contrary, mr_contrary, mw_contrary, mg_firstRow, mr_firstRow, mw_firstRow, mg_firstContrary, mr_firstContrary, mw_firstContrary, mg_depthOf, mr_depthOf, mw_depthOf, mg_phase, mr_phase, mw_phase, mg_tried, mr_tried, mw_tried, mg_before, mr_before, mw_before, mg_old, mr_old, mw_old, mg_steps, mp_steps, mg_mostSteps, mp_mostSteps, mg_rounds, mp_rounds, mg_passes, mp_passes, mg_branches, mp_branches, mg_worth, mr_worth, mw_worth, k1, k2, h4, h14, h15, nI_leI, hle, nL_6, nI_add, xo_in, nI_clamp, q2, nI_1]
    rw [e_Md_inputAt_180, hsx]
    exact hih
end M23
