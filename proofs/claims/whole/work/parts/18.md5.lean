/-! rounds, and saturation to depth 0, of the reference -/
theorem md_si_wr (σ : md_S) (n f k : Nat) (v : Int32) (E : sp_E) : md_si (md_wr σ n f E) k v = md_wr (md_si σ k v) n f E := rfl
theorem md_fi_wr (σ : md_S) {n f k lo hi : Nat} (h : Nat → Int32) (E : sp_E) (h1 : ¬ k = 26) (h2 : ¬ k = 27) : md_fi (md_wr σ n f E) k h lo hi = md_wr (md_fi σ k h lo hi) n f E := by
  refine md_S_ext rfl (fun q j => ?_)
  unfold md_wr
  simp only [md_sa_2, md_fi_2]
  by_cases h27 : q = 27
  · subst h27
    simp [Ne.symm h2, upd]
  · by_cases h26 : q = 26
    · subst h26
      simp [Ne.symm h1, Ne.symm h2]
    · by_cases hk : q = k
      · subst hk
        simp [h27, h26]
      · simp [h27, h26, hk]
/-- gates v .. v + m - 1, by the labels ol when the round began -/
def sp_gs (kd o1 o2 ol : Nat → Nat) : Nat → Nat → sp_E → sp_E
  | _, 0, E => E
  | v, m + 1, E => sp_gs kd o1 o2 ol (v + 1) m (if kd v = 2 then sp_and ol E (2 * v) (o1 v) (o2 v) else if kd v = 3 then sp_same ol E (2 * v) (o1 v) (o2 v) else E)
def sp_rd (n : Nat) (kd o1 o2 : Nat → Nat) (E : sp_E) : sp_E := sp_gs kd o1 o2 E.1 1 (n - 1) E
/-- gates' literals are there -/
def sp_wf (n : Nat) (kd o1 o2 : Nat → Nat) : Prop := ∀ v, v < n → (kd v = 2 ∨ kd v = 3) → o1 v < 2 * n ∧ o2 v < 2 * n
theorem sp_gs_bd {n : Nat} {kd o1 o2 ol : Nat → Nat} (hw : sp_wf n kd o1 o2) (h0 : 1 ≤ n) : ∀ (m v : Nat) (E : sp_E), v + m = n → sp_bd n E → sp_bd n (sp_gs kd o1 o2 ol v m E) := by
  intro m
  induction m with
  | zero => intro v E _ hE; exact hE
  | succ m ih =>
    intro v E hv hE
    unfold sp_gs
    refine ih (v + 1) _ (by omega) ?_
    by_cases c2 : kd v = 2
    · rw [if_pos c2]
      obtain ⟨a1, a2⟩ := hw v (by omega) (Or.inl c2)
      exact sp_and_bd hE (by omega) a1 a2 h0
    · rw [if_neg c2]
      by_cases c3 : kd v = 3
      · rw [if_pos c3]
        obtain ⟨a1, a2⟩ := hw v (by omega) (Or.inr c3)
        exact sp_sam1_bd (sp_sam1_bd hE (by omega) a1 a2 (by decide) h0) (by omega) a1 a2 (by decide) h0
      · rw [if_neg c3]
        exact hE
theorem sp_rd_bd {n : Nat} {kd o1 o2 : Nat → Nat} {E : sp_E} (hw : sp_wf n kd o1 o2) (h0 : 1 ≤ n) (hE : sp_bd n E) : sp_bd n (sp_rd n kd o1 o2 E) := sp_gs_bd hw h0 _ _ _ (by omega) hE
section M5
variable {X : xo_X} {d B : Nat} {σ : md_S} {g : xo_G} {Q : Option Value → xo_G → Prop}
theorem c_round_gates {n f : Nat} {kd o1 o2 ol : Nat → Nat} (hc : md_ci σ n kd o1 o2) (hw : sp_wf n kd o1 o2) (hf : f < 6) (ho : ∀ l, l < 2 * n → σ.2 34 l = nI (ol l) ∧ ol l < 2 ^ 31) : ∀ (m v : Nat) (E : sp_E), v + m = n → 1 ≤ v → sp_bd n E → (ev_R X (d + 3) m_Md_round 48 [some (.ref B), some (.int (nI f)), some (.int (nI v))] [] (md_put B (md_wr σ n f E) g) Q ↔ Q none (md_put B (md_wr σ n f (sp_gs kd o1 o2 ol v m E)) g)) := by
  obtain ⟨h1, h0, hn, h4⟩ := hc
  intro m
  induction m with
  | zero =>
    intro v E hv hv1 hE
    have e : v = n := by omega
    subst e
    simp (disch := first | exact ev_ok_i _ | exact ev_ok_r _ | exact ev_ok_n | omega | assumption) only [e_Md_round_48, e_Md_round_49, e_Md_round_50, e_Md_round_53, e_Md_round_125, ev_rm_n, ev_rm_i, ev_rm_r, ev_rm_l, ev_ok_n, ev_ok_i, ev_ok_r, Option.toList_some, Option.toList_none, List.cons_append, List.nil_append, true_and, and_true, true_or, or_true, reduceIte, Nat.reduceEqDiff, if_true, if_false, md_rc, md_si_1, md_si_2, md_sa_1, md_sa_2, mg_kind, mr_kind, mw_kind, mg_one, mr_one, mw_one, mg_two, mr_two, mw_two, mg_variables, mp_variables, mg_inputs, mp_inputs, mg_inputOf, mr_inputOf, mw_inputOf, mg_nameSign, mr_nameSign, mw_nameSign, mg_nameSize, mr_nameSize, mw_nameSize, mg_label, mr_label, mw_label, mg_isContrary, mp_isContrary, mg_text, mr_text, mw_text, mg_textSize, mp_textSize, mg_at, mp_at, mg_token, mp_token, mg_tokenAt, mp_tokenAt, mg_tokenSize, mp_tokenSize, mg_scanned, mp_scanned, mg_fault, mp_fault, mg_faultAt, mp_faultAt, mg_place, mp_place, mg_open, mp_open, mg_level, mr_level, mw_level, mg_stage, mr_stage, mw_stage, mg_held, mr_held, mw_held, mg_signPlace, mr_signPlace, mw_signPlace, mg_value, mp_value, mg_row, mr_row, mw_row, mg_contrary, mr_contrary, mw_contrary, mg_firstRow, mr_firstRow, mw_firstRow, mg_firstContrary, mr_firstContrary, mw_firstContrary, mg_depthOf, mr_depthOf, mw_depthOf, mg_phase, mr_phase, mw_phase, mg_tried, mr_tried, mw_tried, mg_before, mr_before, mw_before, mg_old, mr_old, mw_old, mg_steps, mp_steps, mg_mostSteps, mp_mostSteps, mg_rounds, mp_rounds, mg_passes, mp_passes, mg_branches, mp_branches, mg_worth, mr_worth, mw_worth, md_wr_1, h1, nI_leI, Nat.le_refl, sp_gs]
  | succ m ih =>
    intro v E hv hv1 hE
    obtain ⟨q1, q2, q3, q4, q5, q6⟩ := h4 v (by omega)
    have hlt : ¬ n ≤ v := by omega
    have k0 : (md_wr σ n f E).2 0 = σ.2 0 := md_wr_2 σ n f E (by decide) (by decide)
    have k1 : (md_wr σ n f E).2 1 = σ.2 1 := md_wr_2 σ n f E (by decide) (by decide)
    have k2 : (md_wr σ n f E).2 2 = σ.2 2 := md_wr_2 σ n f E (by decide) (by decide)
    unfold sp_gs
    by_cases c2 : kd v = 2
    · obtain ⟨a1, a2⟩ := hw v (by omega) (Or.inl c2)
      have hA := fun Q => c_andRules (X := X) (d := d) (B := B) (g := g) (Q := Q) (σ := σ) (f := f) (x := 2 * v) h1 h0 hn hf ho (by omega) a1 a2 hE
      rw [c2] at q1
      simp (disch := first | exact ev_ok_i _ | exact ev_ok_r _ | exact ev_ok_n | omega | assumption) only [e_Md_round_48, e_Md_round_49, e_Md_round_50, e_Md_round_53, e_Md_round_56, e_Md_round_57, e_Md_round_60, e_Md_round_61, e_Md_round_62, e_Md_round_63, e_Md_round_66, e_Md_round_67, e_Md_round_68, e_Md_round_69, e_Md_round_70, e_Md_round_71, e_Md_round_72, e_Md_round_75, e_Md_round_76, e_Md_round_77, e_Md_round_78, e_Md_round_81, e_Md_round_82, e_Md_round_83, ev_rm_n, ev_rm_i, ev_rm_r, ev_rm_l, ev_ok_n, ev_ok_i, ev_ok_r, Option.toList_some, Option.toList_none, List.cons_append, List.nil_append, true_and, and_true, true_or, or_true, reduceIte, Nat.reduceEqDiff, if_true, if_false, md_rc, md_si_1, md_si_2, md_sa_1, md_sa_2, mg_kind, mr_kind, mw_kind, mg_one, mr_one, mw_one, mg_two, mr_two, mw_two, mg_variables, mp_variables, mg_inputs, mp_inputs, mg_inputOf, mr_inputOf, mw_inputOf, mg_nameSign, mr_nameSign, mw_nameSign, mg_nameSize, mr_nameSize, mw_nameSize, mg_label, mr_label, mw_label, mg_isContrary, mp_isContrary, mg_text, mr_text, mw_text, mg_textSize, mp_textSize, mg_at, mp_at, mg_token, mp_token, mg_tokenAt, mp_tokenAt, mg_tokenSize, mp_tokenSize, mg_scanned, mp_scanned, mg_fault, mp_fault, mg_faultAt, mp_faultAt, mg_place, mp_place, mg_open, mp_open, mg_level, mr_level, mw_level, mg_stage, mr_stage, mw_stage, mg_held, mr_held, mw_held, mg_signPlace, mr_signPlace, mw_signPlace, mg_value, mp_value, mg_row, mr_row, mw_row, mg_contrary, mr_contrary, mw_contrary, mg_firstRow, mr_firstRow, mw_firstRow, mg_firstContrary, mr_firstContrary, mw_firstContrary, mg_depthOf, mr_depthOf, mw_depthOf, mg_phase, mr_phase, mw_phase, mg_tried, mr_tried, mw_tried, mg_before, mr_before, mw_before, mg_old, mr_old, mw_old, mg_steps, mp_steps, mg_mostSteps, mp_mostSteps, mg_rounds, mp_rounds, mg_passes, mp_passes, mg_branches, mp_branches, mg_worth, mr_worth, mw_worth, md_wr_1, h1, nI_leI, hlt, xo_in, nI_clamp, k0, k1, k2, q1, q2, q3, nE_2, nL_2, not_true_eq_false, hA]
      simp (disch := first | exact ev_ok_i _ | exact ev_ok_r _ | exact ev_ok_n | omega | assumption) only [e_Md_round_86, e_Md_round_119, ev_rm_n, ev_rm_i, ev_rm_r, ev_rm_l, ev_ok_n, ev_ok_i, ev_ok_r, Option.toList_some, Option.toList_none, List.cons_append, List.nil_append, true_and, and_true, true_or, or_true, reduceIte, Nat.reduceEqDiff, if_true, if_false, nI_1, c2]
      rw [e_Md_round_122]
      exact ih (v + 1) _ (by omega) (by omega) (sp_and_bd hE (by omega) a1 a2 h0)
    · by_cases c3 : kd v = 3
      · obtain ⟨a1, a2⟩ := hw v (by omega) (Or.inr c3)
        have hA := fun Q => c_sameRules (X := X) (d := d) (B := B) (g := g) (Q := Q) (σ := σ) (f := f) (x := 2 * v) h1 h0 hn hf ho (by omega) a1 a2 hE
        rw [c3] at q1
        have n32 : ¬ (3 : Nat) = 2 := by decide
        simp (disch := first | exact ev_ok_i _ | exact ev_ok_r _ | exact ev_ok_n | omega | assumption) only [e_Md_round_48, e_Md_round_49, e_Md_round_50, e_Md_round_53, e_Md_round_56, e_Md_round_57, e_Md_round_60, e_Md_round_61, e_Md_round_62, e_Md_round_63, e_Md_round_66, e_Md_round_67, e_Md_round_68, e_Md_round_69, e_Md_round_70, e_Md_round_71, e_Md_round_72, e_Md_round_75, e_Md_round_76, e_Md_round_77, e_Md_round_78, e_Md_round_81, e_Md_round_82, e_Md_round_83, e_Md_round_86, e_Md_round_89, e_Md_round_90, e_Md_round_93, e_Md_round_94, e_Md_round_95, e_Md_round_96, e_Md_round_99, e_Md_round_100, e_Md_round_101, e_Md_round_102, e_Md_round_103, e_Md_round_104, e_Md_round_105, e_Md_round_108, e_Md_round_109, e_Md_round_110, e_Md_round_111, e_Md_round_114, e_Md_round_115, e_Md_round_116, ev_rm_n, ev_rm_i, ev_rm_r, ev_rm_l, ev_ok_n, ev_ok_i, ev_ok_r, Option.toList_some, Option.toList_none, List.cons_append, List.nil_append, true_and, and_true, true_or, or_true, reduceIte, Nat.reduceEqDiff, if_true, if_false, md_rc, md_si_1, md_si_2, md_sa_1, md_sa_2, mg_kind, mr_kind, mw_kind, mg_one, mr_one, mw_one, mg_two, mr_two, mw_two, mg_variables, mp_variables, mg_inputs, mp_inputs, mg_inputOf, mr_inputOf, mw_inputOf, mg_nameSign, mr_nameSign, mw_nameSign, mg_nameSize, mr_nameSize, mw_nameSize, mg_label, mr_label, mw_label, mg_isContrary, mp_isContrary, mg_text, mr_text, mw_text, mg_textSize, mp_textSize, mg_at, mp_at, mg_token, mp_token, mg_tokenAt, mp_tokenAt, mg_tokenSize, mp_tokenSize, mg_scanned, mp_scanned, mg_fault, mp_fault, mg_faultAt, mp_faultAt, mg_place, mp_place, mg_open, mp_open, mg_level, mr_level, mw_level, mg_stage, mr_stage, mw_stage, mg_held, mr_held, mw_held, mg_signPlace, mr_signPlace, mw_signPlace, mg_value, mp_value, mg_row, mr_row, mw_row, mg_contrary, mr_contrary, mw_contrary, mg_firstRow, mr_firstRow, mw_firstRow, mg_firstContrary, mr_firstContrary, mw_firstContrary, mg_depthOf, mr_depthOf, mw_depthOf, mg_phase, mr_phase, mw_phase, mg_tried, mr_tried, mw_tried, mg_before, mr_before, mw_before, mg_old, mr_old, mw_old, mg_steps, mp_steps, mg_mostSteps, mp_mostSteps, mg_rounds, mp_rounds, mg_passes, mp_passes, mg_branches, mp_branches, mg_worth, mr_worth, mw_worth, md_wr_1, h1, nI_leI, hlt, xo_in, nI_clamp, k0, k1, k2, q1, q2, q3, nE_2, nE_3, nL_2, n32, not_true_eq_false, not_false_eq_true, hA]
        simp (disch := first | exact ev_ok_i _ | exact ev_ok_r _ | exact ev_ok_n | omega | assumption) only [e_Md_round_119, ev_rm_n, ev_rm_i, ev_rm_r, ev_rm_l, ev_ok_n, ev_ok_i, ev_ok_r, Option.toList_some, Option.toList_none, List.cons_append, List.nil_append, true_and, and_true, true_or, or_true, reduceIte, Nat.reduceEqDiff, if_true, if_false, nI_1, c3, n32]
        rw [e_Md_round_122]
        exact ih (v + 1) _ (by omega) (by omega) (sp_sam1_bd (sp_sam1_bd hE (by omega) a1 a2 (by decide) h0) (by omega) a1 a2 (by decide) h0)
      · simp (disch := first | exact ev_ok_i _ | exact ev_ok_r _ | exact ev_ok_n | omega | assumption) only [e_Md_round_48, e_Md_round_49, e_Md_round_50, e_Md_round_53, e_Md_round_56, e_Md_round_57, e_Md_round_60, e_Md_round_61, e_Md_round_62, e_Md_round_63, e_Md_round_66, e_Md_round_67, e_Md_round_68, e_Md_round_69, e_Md_round_70, e_Md_round_71, e_Md_round_72, e_Md_round_75, e_Md_round_76, e_Md_round_77, e_Md_round_78, e_Md_round_81, e_Md_round_82, e_Md_round_83, e_Md_round_86, e_Md_round_89, e_Md_round_90, e_Md_round_93, e_Md_round_94, e_Md_round_95, e_Md_round_96, ev_rm_n, ev_rm_i, ev_rm_r, ev_rm_l, ev_ok_n, ev_ok_i, ev_ok_r, Option.toList_some, Option.toList_none, List.cons_append, List.nil_append, true_and, and_true, true_or, or_true, reduceIte, Nat.reduceEqDiff, if_true, if_false, md_rc, md_si_1, md_si_2, md_sa_1, md_sa_2, mg_kind, mr_kind, mw_kind, mg_one, mr_one, mw_one, mg_two, mr_two, mw_two, mg_variables, mp_variables, mg_inputs, mp_inputs, mg_inputOf, mr_inputOf, mw_inputOf, mg_nameSign, mr_nameSign, mw_nameSign, mg_nameSize, mr_nameSize, mw_nameSize, mg_label, mr_label, mw_label, mg_isContrary, mp_isContrary, mg_text, mr_text, mw_text, mg_textSize, mp_textSize, mg_at, mp_at, mg_token, mp_token, mg_tokenAt, mp_tokenAt, mg_tokenSize, mp_tokenSize, mg_scanned, mp_scanned, mg_fault, mp_fault, mg_faultAt, mp_faultAt, mg_place, mp_place, mg_open, mp_open, mg_level, mr_level, mw_level, mg_stage, mr_stage, mw_stage, mg_held, mr_held, mw_held, mg_signPlace, mr_signPlace, mw_signPlace, mg_value, mp_value, mg_row, mr_row, mw_row, mg_contrary, mr_contrary, mw_contrary, mg_firstRow, mr_firstRow, mw_firstRow, mg_firstContrary, mr_firstContrary, mw_firstContrary, mg_depthOf, mr_depthOf, mw_depthOf, mg_phase, mr_phase, mw_phase, mg_tried, mr_tried, mw_tried, mg_before, mr_before, mw_before, mg_old, mr_old, mw_old, mg_steps, mp_steps, mg_mostSteps, mp_mostSteps, mg_rounds, mp_rounds, mg_passes, mp_passes, mg_branches, mp_branches, mg_worth, mr_worth, mw_worth, md_wr_1, h1, nI_leI, hlt, xo_in, nI_clamp, k0, k1, k2, q1, q2, q3, nE_2, nE_3, nL_2, c2, c3, not_true_eq_false, not_false_eq_true]
        simp (disch := first | exact ev_ok_i _ | exact ev_ok_r _ | exact ev_ok_n | omega | assumption) only [e_Md_round_119, ev_rm_n, ev_rm_i, ev_rm_r, ev_rm_l, ev_ok_n, ev_ok_i, ev_ok_r, Option.toList_some, Option.toList_none, List.cons_append, List.nil_append, true_and, and_true, true_or, or_true, reduceIte, Nat.reduceEqDiff, if_true, if_false, nI_1, c2, c3]
        rw [e_Md_round_122]
        exact ih (v + 1) _ (by omega) (by omega) hE
theorem c_round_old {n f : Nat} (h1 : σ.1 3 = nI n) (hn : n ≤ 120) (hf : f < 6) {E : sp_E} : ∀ (m v : Nat), v + m = 2 * n → (ev_R X d m_Md_round 12 [some (.ref B), some (.int (nI f)), some (.int (nI v))] [] (md_put B (md_wr (md_fi σ 34 (fun l => nI (E.1 l)) 0 v) n f E) g) Q ↔ ev_R X d m_Md_round 48 [some (.ref B), some (.int (nI f)), some (.int 1)] [] (md_put B (md_wr (md_fi σ 34 (fun l => nI (E.1 l)) 0 (2 * n)) n f E) g) Q) := by
  intro m
  induction m with
  | zero =>
    intro v hv
    have e : v = 2 * n := by omega
    subst e
    simp (disch := first | exact ev_ok_i _ | exact ev_ok_r _ | exact ev_ok_n | omega | assumption) only [e_Md_round_12, e_Md_round_13, e_Md_round_14, e_Md_round_15, e_Md_round_18, e_Md_round_19, e_Md_round_46, e_Md_round_47, ev_rm_n, ev_rm_i, ev_rm_r, ev_rm_l, ev_ok_n, ev_ok_i, ev_ok_r, Option.toList_some, Option.toList_none, List.cons_append, List.nil_append, true_and, and_true, true_or, or_true, reduceIte, Nat.reduceEqDiff, if_true, if_false, md_rc, md_si_1, md_si_2, md_sa_1, md_sa_2, mg_kind, mr_kind, mw_kind, mg_one, mr_one, mw_one, mg_two, mr_two, mw_two, mg_variables, mp_variables, mg_inputs, mp_inputs, mg_inputOf, mr_inputOf, mw_inputOf, mg_nameSign, mr_nameSign, mw_nameSign, mg_nameSize, mr_nameSize, mw_nameSize, mg_label, mr_label, mw_label, mg_isContrary, mp_isContrary, mg_text, mr_text, mw_text, mg_textSize, mp_textSize, mg_at, mp_at, mg_token, mp_token, mg_tokenAt, mp_tokenAt, mg_tokenSize, mp_tokenSize, mg_scanned, mp_scanned, mg_fault, mp_fault, mg_faultAt, mp_faultAt, mg_place, mp_place, mg_open, mp_open, mg_level, mr_level, mw_level, mg_stage, mr_stage, mw_stage, mg_held, mr_held, mw_held, mg_signPlace, mr_signPlace, mw_signPlace, mg_value, mp_value, mg_row, mr_row, mw_row, mg_contrary, mr_contrary, mw_contrary, mg_firstRow, mr_firstRow, mw_firstRow, mg_firstContrary, mr_firstContrary, mw_firstContrary, mg_depthOf, mr_depthOf, mw_depthOf, mg_phase, mr_phase, mw_phase, mg_tried, mr_tried, mw_tried, mg_before, mr_before, mw_before, mg_old, mr_old, mw_old, mg_steps, mp_steps, mg_mostSteps, mp_mostSteps, mg_rounds, mp_rounds, mg_passes, mp_passes, mg_branches, mp_branches, mg_worth, mr_worth, mw_worth, md_wr_1, md_fi_1, h1, nL_2, nI_leI, Nat.le_refl]
  | succ m ih =>
    intro v hv
    have hih := ih (v + 1) (by omega)
    have hlt : ¬ 2 * n ≤ v := by omega
    have hr := md_wr_row (md_fi σ 34 (fun l => nI (E.1 l)) 0 v) (n := n) (f := f) (l := v) E (by omega)
    simp (disch := first | exact ev_ok_i _ | exact ev_ok_r _ | exact ev_ok_n | omega | assumption) only [e_Md_round_12, e_Md_round_13, e_Md_round_14, e_Md_round_15, e_Md_round_18, e_Md_round_19, e_Md_round_22, e_Md_round_23, e_Md_round_26, e_Md_round_27, e_Md_round_28, e_Md_round_31, e_Md_round_34, e_Md_round_35, e_Md_round_36, e_Md_round_37, e_Md_round_38, e_Md_round_39, e_Md_round_40, ev_rm_n, ev_rm_i, ev_rm_r, ev_rm_l, ev_ok_n, ev_ok_i, ev_ok_r, Option.toList_some, Option.toList_none, List.cons_append, List.nil_append, true_and, and_true, true_or, or_true, reduceIte, Nat.reduceEqDiff, if_true, if_false, md_rc, md_si_1, md_si_2, md_sa_1, md_sa_2, mg_kind, mr_kind, mw_kind, mg_one, mr_one, mw_one, mg_two, mr_two, mw_two, mg_variables, mp_variables, mg_inputs, mp_inputs, mg_inputOf, mr_inputOf, mw_inputOf, mg_nameSign, mr_nameSign, mw_nameSign, mg_nameSize, mr_nameSize, mw_nameSize, mg_label, mr_label, mw_label, mg_isContrary, mp_isContrary, mg_text, mr_text, mw_text, mg_textSize, mp_textSize, mg_at, mp_at, mg_token, mp_token, mg_tokenAt, mp_tokenAt, mg_tokenSize, mp_tokenSize, mg_scanned, mp_scanned, mg_fault, mp_fault, mg_faultAt, mp_faultAt, mg_place, mp_place, mg_open, mp_open, mg_level, mr_level, mw_level, mg_stage, mr_stage, mw_stage, mg_held, mr_held, mw_held, mg_signPlace, mr_signPlace, mw_signPlace, mg_value, mp_value, mg_row, mr_row, mw_row, mg_contrary, mr_contrary, mw_contrary, mg_firstRow, mr_firstRow, mw_firstRow, mg_firstContrary, mr_firstContrary, mw_firstContrary, mg_depthOf, mr_depthOf, mw_depthOf, mg_phase, mr_phase, mw_phase, mg_tried, mr_tried, mw_tried, mg_before, mr_before, mw_before, mg_old, mr_old, mw_old, mg_steps, mp_steps, mg_mostSteps, mp_mostSteps, mg_rounds, mp_rounds, mg_passes, mp_passes, mg_branches, mp_branches, mg_worth, mr_worth, mw_worth, md_wr_1, md_fi_1, h1, nL_2, nL_240, nI_add, nI_leI, hlt, xo_in, nI_clamp, nI_1, hr]
    rw [e_Md_round_43, ← md_fi_wr σ _ E (by decide) (by decide), md_fi_s _ 34 _ (Nat.zero_le v) rfl, md_fi_wr σ _ E (by decide) (by decide)]
    exact hih
/-- a round: the labels, the tally; old: what stood when it began -/
theorem c_round {n f r : Nat} {kd o1 o2 : Nat → Nat} (hc : md_ci σ n kd o1 o2) (hw : sp_wf n kd o1 o2) (hf : f < 6) (hr : σ.1 37 = nI r) {E : sp_E} (hE : sp_bd n E) : ev_C X (d + 3) m_Md_round [.ref B, .int (nI f)] (md_put B (md_wr σ n f E) g) Q ↔ Q none (md_put B (md_wr (md_fi (md_si σ 37 (nI (r + 1))) 34 (fun l => nI (E.1 l)) 0 (2 * n)) n f (sp_rd n kd o1 o2 E)) g) := by
  show ev_R X (d + 3) m_Md_round 0 [some (.ref B), some (.int (nI f)), none] [] (md_put B (md_wr σ n f E) g) Q ↔ _
  have e0 : (0 : Int32) = nI 0 := rfl
  have e1 : (1 : Int32) = nI 1 := rfl
  have h3 : (md_si σ 37 (nI (r + 1))).1 3 = nI n := by rw [md_si_1, if_neg (by decide)]; exact hc.1
  have ho := c_round_old (X := X) (d := d + 3) (B := B) (g := g) (Q := Q) (E := E) (f := f) h3 hc.2.2.1 hf (2 * n) 0 (by omega)
  rw [md_fi_0] at ho
  have hg := c_round_gates (X := X) (d := d) (B := B) (g := g) (Q := Q) (σ := md_fi (md_si σ 37 (nI (r + 1))) 34 (fun l => nI (E.1 l)) 0 (2 * n)) (f := f) (ol := E.1) (kd := kd) (o1 := o1) (o2 := o2) ⟨h3, hc.2.1, hc.2.2.1, fun v hv => by simpa only [md_fi_2, md_si_2, Nat.reduceEqDiff, if_false] using hc.2.2.2 v hv⟩ hw hf (fun l hl => by
    rw [md_fi_2, if_pos rfl]
    have := hE l hl
    have := hc.2.2.1
    exact ⟨if_pos ⟨Nat.zero_le l, hl⟩, by omega⟩) (n - 1) 1 E (by have := hc.2.1; omega) (Nat.le_refl 1) hE
  simp (disch := first | exact ev_ok_i _ | exact ev_ok_r _ | exact ev_ok_n | omega | assumption) only [e_Md_round_0, e_Md_round_1, e_Md_round_2, e_Md_round_5, e_Md_round_6, e_Md_round_7, e_Md_round_10, e_Md_round_11, ev_rm_n, ev_rm_i, ev_rm_r, ev_rm_l, ev_ok_n, ev_ok_i, ev_ok_r, Option.toList_some, Option.toList_none, List.cons_append, List.nil_append, true_and, and_true, true_or, or_true, reduceIte, Nat.reduceEqDiff, if_true, if_false, md_rc, md_si_1, md_si_2, md_sa_1, md_sa_2, mg_kind, mr_kind, mw_kind, mg_one, mr_one, mw_one, mg_two, mr_two, mw_two, mg_variables, mp_variables, mg_inputs, mp_inputs, mg_inputOf, mr_inputOf, mw_inputOf, mg_nameSign, mr_nameSign, mw_nameSign, mg_nameSize, mr_nameSize, mw_nameSize, mg_label, mr_label, mw_label, mg_isContrary, mp_isContrary, mg_text, mr_text, mw_text, mg_textSize, mp_textSize, mg_at, mp_at, mg_token, mp_token, mg_tokenAt, mp_tokenAt, mg_tokenSize, mp_tokenSize, mg_scanned, mp_scanned, mg_fault, mp_fault, mg_faultAt, mp_faultAt, mg_place, mp_place, mg_open, mp_open, mg_level, mr_level, mw_level, mg_stage, mr_stage, mw_stage, mg_held, mr_held, mw_held, mg_signPlace, mr_signPlace, mw_signPlace, mg_value, mp_value, mg_row, mr_row, mw_row, mg_contrary, mr_contrary, mw_contrary, mg_firstRow, mr_firstRow, mw_firstRow, mg_firstContrary, mr_firstContrary, mw_firstContrary, mg_depthOf, mr_depthOf, mw_depthOf, mg_phase, mr_phase, mw_phase, mg_tried, mr_tried, mw_tried, mg_before, mr_before, mw_before, mg_old, mr_old, mw_old, mg_steps, mp_steps, mg_mostSteps, mp_mostSteps, mg_rounds, mp_rounds, mg_passes, mp_passes, mg_branches, mp_branches, mg_worth, mr_worth, mw_worth, md_wr_1, hr, nI_1, md_si_wr]
  rw [e0, ho, e1, hg]
  rfl
end M5
