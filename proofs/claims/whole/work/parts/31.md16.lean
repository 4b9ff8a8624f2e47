/-! the reference's join, saturate, prove, gate -/
def sp_join (w : sp_W) (a b : Int32) : Int32 × sp_W := match sp_lit (cN w.1) a, sp_lit (cN w.1) b with
  | some p, some q => if w.2.1.2 = true then (-3, w) else (if (sp_j w.2.1 p q).2 = true then 2 else if w.2.1.1 p = w.2.1.1 q then 0 else 1, (w.1, sp_j w.2.1 p q, w.2.2))
  | _, _ => (-1, w)
def sp_satu (w : sp_W) (a b : Int32) : Int32 × sp_W := if sp_out a b then (-2, w) else if w.2.1.2 = true then (-3, w) else
  if (sp_sk (cN w.1) (cK w.1) (cA w.1) (cB w.1) b.toNatClampNeg a.toNatClampNeg w.2.1 (0, 0, 0, 0)).1 = true then (-6, (w.1, w.2.1, w.2.2.1, w.2.2.2.1, (sp_sk (cN w.1) (cK w.1) (cA w.1) (cB w.1) b.toNatClampNeg a.toNatClampNeg w.2.1 (0, 0, 0, 0)).2.2))
  else (if (sp_sk (cN w.1) (cK w.1) (cA w.1) (cB w.1) b.toNatClampNeg a.toNatClampNeg w.2.1 (0, 0, 0, 0)).2.1.2 = true then 0 else 1, (w.1, (sp_sk (cN w.1) (cK w.1) (cA w.1) (cB w.1) b.toNatClampNeg a.toNatClampNeg w.2.1 (0, 0, 0, 0)).2.1, w.2.2.1, w.2.2.2.1, (sp_sk (cN w.1) (cK w.1) (cA w.1) (cB w.1) b.toNatClampNeg a.toNatClampNeg w.2.1 (0, 0, 0, 0)).2.2))
/-- the depths of a proof, from k on, m of them -/
def sp_pvl (sk : Nat → sp_E → sp_T → sp_Z) : Nat → Nat → sp_E → sp_T → Int32 × sp_T
  | 0, _, _, t => (-5, t)
  | m + 1, k, E, t => if (sk k E t).1 = true then (-6, (sk k E t).2.2) else if (sk k E t).2.1.2 = true then (nI k, (sk k E t).2.2) else sp_pvl sk m (k + 1) (sk k E t).2.1 (sk k E t).2.2
def sp_prove (w : sp_W) (l a b : Int32) : Int32 × sp_W := match sp_lit (cN w.1) l with
  | some p => if sp_out a b then (-2, w) else
    ((sp_pvl (sp_sk (cN w.1) (cK w.1) (cA w.1) (cB w.1) b.toNatClampNeg) (a.toNatClampNeg + 1) 0 (sp_j sp_id p 1) (0, 0, 0, 0)).1, (w.1, w.2.1, w.2.2.1, w.2.2.2.1, (sp_pvl (sp_sk (cN w.1) (cK w.1) (cA w.1) (cB w.1) b.toNatClampNeg) (a.toNatClampNeg + 1) 0 (sp_j sp_id p 1) (0, 0, 0, 0)).2))
  | none => (-1, w)
theorem md_take_eq {σ : md_S} {n : Nat} {E : sp_E} (h : md_eR σ n E) : md_sa (md_fi σ 26 (σ.2 8) 0 (2 * n)) 27 0 (vp_nar .boolean (σ.1 9)) = md_wr σ n 0 E := by
  refine md_S_ext rfl (fun q j => ?_)
  rw [h.2, vp_zb]
  unfold md_wr
  simp only [md_sa_2, md_fi_2, Nat.mul_zero, Nat.zero_add, Nat.sub_zero]
  by_cases h26 : q = 26
  · subst h26
    simp only [Nat.reduceEqDiff, if_false, if_true]
    by_cases hj : 0 ≤ j ∧ j < 2 * n
    · rw [if_pos hj, if_pos hj, h.1 j hj.2]
    · rw [if_neg hj, if_neg hj]
  · simp only [h26, if_false, Nat.reduceEqDiff]
theorem md_wr_fr0 (σ : md_S) (n : Nat) (E : sp_E) : md_fr σ (md_wr σ n 0 E) 0 := md_fr_wr σ E (Nat.le_refl 0)
/-- after 'back' -/
theorem md_R_back {σ : md_S} {w : sp_W} {E : sp_E} (hR : md_R σ w) (hr : md_rw σ (cN w.1) 0 E) : md_R (md_si (md_fi σ 8 (σ.2 26) 0 (2 * cN w.1)) 9 (σ.2 27 0)) (w.1, E, w.2.2) := by
  refine ⟨⟨⟨hR.1.1.1, hR.1.1.2.1, hR.1.1.2.2.1, fun v hv => hR.1.1.2.2.2 v hv⟩, hR.1.2.1, fun i hi => hR.1.2.2 i hi⟩, ⟨fun l hl => ?_, hr.2⟩, hR.2.2.1, hR.2.2.2.1, hR.2.2.2.2⟩
  rw [md_si_2, md_fi_2, if_pos rfl]
  have := hr.1 l hl
  rw [Nat.mul_zero, Nat.zero_add] at this
  rw [← this]
  exact if_pos ⟨Nat.zero_le l, hl⟩
theorem sp_out_n {a b : Int32} (h : ¬ sp_out a b) : ∃ x y : Nat, x ≤ 4 ∧ y ≤ 5000 ∧ a = nI x ∧ b = nI y := by
  obtain ⟨x, hx, ex⟩ := nI_of2 (x := a) (M := 4) (n := 4) rfl (fun z => h (Or.inl z)) (Int32.not_lt.mp fun z => h (Or.inr (Or.inl z)))
  obtain ⟨y, hy, ey⟩ := nI_of2 (x := b) (M := 5000) (n := 5000) rfl (fun z => h (Or.inr (Or.inr (Or.inl z)))) (Int32.not_lt.mp fun z => h (Or.inr (Or.inr (Or.inr z))))
  exact ⟨x, y, hx, hy, ex, ey⟩
theorem sp_ok_0 {w : sp_W} (hw : sp_wok w) (ms : Nat) : sp_ok (cN w.1) ms w.2.1 (0, 0, 0, 0) := ⟨sp_va_bd hw.2.1, Nat.zero_le ms, hw.2.1⟩
section M16
variable {X : xo_X} {d B : Nat} {σ : md_S} {g : xo_G} {Q : Option Value → xo_G → Prop} {w : sp_W}
theorem c_mdjoin (hR : md_R σ w) (hw : sp_wok w) (a b : Int32) (hQ : ∀ σ2, md_R σ2 (sp_join w a b).2 → Q (some (.int (sp_join w a b).1)) (md_put B σ2 g)) : ev_C X (d + 1) m_Md_join [.ref B, .int a, .int b] (md_put B σ g) Q := by
  show ev_R X (d + 1) m_Md_join 0 [some (.ref B), some (.int a), some (.int b), none] [] (md_put B σ g) Q
  have hn := hw.1.1.2.1
  have hv := fun x Q => c_isLiteral (X := X) (d := d) (B := B) (g := g) (Q := Q) hR.1.1.1 hn x
  have h9 := hR.2.1.2
  have hv0 := fun x Q => hv x Q
  unfold sp_join at hQ
  simp (disch := first | exact ev_ok_i _ | exact ev_ok_r _ | exact ev_ok_n | omega | assumption) only [e_Md_join_0, e_Md_join_1, e_Md_join_2, e_Md_join_5, ev_rm_n, ev_rm_i, ev_rm_r, ev_rm_l, ev_ok_n, ev_ok_i, ev_ok_r, Option.toList_some, Option.toList_none, List.cons_append, List.nil_append, true_and, and_true, true_or, or_true, reduceIte, Nat.reduceEqDiff, if_true, if_false, md_rc, md_si_1, md_si_2, md_sa_1, md_sa_2, mg_kind, mr_kind, mw_kind, mg_one, mr_one, mw_one, mg_two, mr_two, mw_two, mg_variables, mp_variables, mg_inputs, mp_inputs, mg_inputOf, mr_inputOf, mw_inputOf, mg_nameSign, mr_nameSign, mw_nameSign, mg_nameSize, mr_nameSize, mw_nameSize, mg_label, mr_label, mw_label, mg_isContrary, mp_isContrary, mg_text, mr_text, mw_text, mg_textSize, mp_textSize, mg_at, mp_at, mg_token, mp_token, mg_tokenAt, mp_tokenAt, mg_tokenSize, mp_tokenSize, mg_scanned, mp_scanned, mg_fault, mp_fault, mg_faultAt, mp_faultAt, mg_place, mp_place, mg_open, mp_open, mg_level, mr_level, mw_level, mg_stage, mr_stage, mw_stage, mg_held, mr_held, mw_held, mg_signPlace, mr_signPlace, mw_signPlace, mg_value, mp_value, mg_row, mr_row, mw_row, mg_contrary, mr_contrary, mw_contrary, mg_firstRow, mr_firstRow, mw_firstRow, mg_firstContrary, mr_firstContrary, mw_firstContrary, mg_depthOf, mr_depthOf, mw_depthOf, mg_phase, mr_phase, mw_phase, mg_tried, mr_tried, mw_tried, mg_before, mr_before, mw_before, mg_old, mr_old, mw_old, mg_steps, mp_steps, mg_mostSteps, mp_mostSteps, mg_rounds, mp_rounds, mg_passes, mp_passes, mg_branches, mp_branches, mg_worth, mr_worth, mw_worth, hv]
  cases ha : sp_lit (cN w.1) a with
  | none =>
    rw [ha] at hQ
    simp (disch := first | exact ev_ok_i _ | exact ev_ok_r _ | exact ev_ok_n | omega | assumption) only [e_Md_join_16, e_Md_join_17, ev_rm_n, ev_rm_i, ev_rm_r, ev_rm_l, ev_ok_n, ev_ok_i, ev_ok_r, Option.toList_some, Option.toList_none, List.cons_append, List.nil_append, true_and, and_true, true_or, or_true, reduceIte, Nat.reduceEqDiff, if_true, if_false]
    exact hQ σ hR
  | some p =>
    simp (disch := first | exact ev_ok_i _ | exact ev_ok_r _ | exact ev_ok_n | omega | assumption) only [e_Md_join_8, e_Md_join_9, e_Md_join_10, e_Md_join_13, ev_rm_n, ev_rm_i, ev_rm_r, ev_rm_l, ev_ok_n, ev_ok_i, ev_ok_r, Option.toList_some, Option.toList_none, List.cons_append, List.nil_append, true_and, and_true, true_or, or_true, reduceIte, Nat.reduceEqDiff, if_true, if_false, md_rc, md_si_1, md_si_2, md_sa_1, md_sa_2, mg_kind, mr_kind, mw_kind, mg_one, mr_one, mw_one, mg_two, mr_two, mw_two, mg_variables, mp_variables, mg_inputs, mp_inputs, mg_inputOf, mr_inputOf, mw_inputOf, mg_nameSign, mr_nameSign, mw_nameSign, mg_nameSize, mr_nameSize, mw_nameSize, mg_label, mr_label, mw_label, mg_isContrary, mp_isContrary, mg_text, mr_text, mw_text, mg_textSize, mp_textSize, mg_at, mp_at, mg_token, mp_token, mg_tokenAt, mp_tokenAt, mg_tokenSize, mp_tokenSize, mg_scanned, mp_scanned, mg_fault, mp_fault, mg_faultAt, mp_faultAt, mg_place, mp_place, mg_open, mp_open, mg_level, mr_level, mw_level, mg_stage, mr_stage, mw_stage, mg_held, mr_held, mw_held, mg_signPlace, mr_signPlace, mw_signPlace, mg_value, mp_value, mg_row, mr_row, mw_row, mg_contrary, mr_contrary, mw_contrary, mg_firstRow, mr_firstRow, mw_firstRow, mg_firstContrary, mr_firstContrary, mw_firstContrary, mg_depthOf, mr_depthOf, mw_depthOf, mg_phase, mr_phase, mw_phase, mg_tried, mr_tried, mw_tried, mg_before, mr_before, mw_before, mg_old, mr_old, mw_old, mg_steps, mp_steps, mg_mostSteps, mp_mostSteps, mg_rounds, mp_rounds, mg_passes, mp_passes, mg_branches, mp_branches, mg_worth, mr_worth, mw_worth, i_10, hv]
    cases hb : sp_lit (cN w.1) b with
    | none =>
      rw [ha, hb] at hQ
      simp (disch := first | exact ev_ok_i _ | exact ev_ok_r _ | exact ev_ok_n | omega | assumption) only [e_Md_join_16, e_Md_join_17, ev_rm_n, ev_rm_i, ev_rm_r, ev_rm_l, ev_ok_n, ev_ok_i, ev_ok_r, Option.toList_some, Option.toList_none, List.cons_append, List.nil_append, true_and, and_true, true_or, or_true, reduceIte, Nat.reduceEqDiff, if_true, if_false, not_true_eq_false]
      exact hQ σ hR
    | some q =>
      rw [ha, hb] at hQ
      dsimp only at hQ
      obtain ⟨rfl, hp⟩ := sp_lit_s ha
      obtain ⟨rfl, hq⟩ := sp_lit_s hb
      simp (disch := first | exact ev_ok_i _ | exact ev_ok_r _ | exact ev_ok_n | omega | assumption) only [e_Md_join_18, e_Md_join_19, e_Md_join_22, ev_rm_n, ev_rm_i, ev_rm_r, ev_rm_l, ev_ok_n, ev_ok_i, ev_ok_r, Option.toList_some, Option.toList_none, List.cons_append, List.nil_append, true_and, and_true, true_or, or_true, reduceIte, Nat.reduceEqDiff, if_true, if_false, md_rc, md_si_1, md_si_2, md_sa_1, md_sa_2, mg_kind, mr_kind, mw_kind, mg_one, mr_one, mw_one, mg_two, mr_two, mw_two, mg_variables, mp_variables, mg_inputs, mp_inputs, mg_inputOf, mr_inputOf, mw_inputOf, mg_nameSign, mr_nameSign, mw_nameSign, mg_nameSize, mr_nameSize, mw_nameSize, mg_label, mr_label, mw_label, mg_isContrary, mp_isContrary, mg_text, mr_text, mw_text, mg_textSize, mp_textSize, mg_at, mp_at, mg_token, mp_token, mg_tokenAt, mp_tokenAt, mg_tokenSize, mp_tokenSize, mg_scanned, mp_scanned, mg_fault, mp_fault, mg_faultAt, mp_faultAt, mg_place, mp_place, mg_open, mp_open, mg_level, mr_level, mw_level, mg_stage, mr_stage, mw_stage, mg_held, mr_held, mw_held, mg_signPlace, mr_signPlace, mw_signPlace, mg_value, mp_value, mg_row, mr_row, mw_row, mg_contrary, mr_contrary, mw_contrary, mg_firstRow, mr_firstRow, mw_firstRow, mg_firstContrary, mr_firstContrary, mw_firstContrary, mg_depthOf, mr_depthOf, mw_depthOf, mg_phase, mr_phase, mw_phase, mg_tried, mr_tried, mw_tried, mg_before, mr_before, mw_before, mg_old, mr_old, mw_old, mg_steps, mp_steps, mg_mostSteps, mp_mostSteps, mg_rounds, mp_rounds, mg_passes, mp_passes, mg_branches, mp_branches, mg_worth, mr_worth, mw_worth, i_10, not_false_eq_true, h9, sp_zb_0]
      cases hE : w.2.1.2 with
      | true =>
        rw [if_pos hE] at hQ
        simp (disch := first | exact ev_ok_i _ | exact ev_ok_r _ | exact ev_ok_n | omega | assumption) only [e_Md_join_25, e_Md_join_27, ev_rm_n, ev_rm_i, ev_rm_r, ev_rm_l, ev_ok_n, ev_ok_i, ev_ok_r, Option.toList_some, Option.toList_none, List.cons_append, List.nil_append, true_and, and_true, true_or, or_true, reduceIte, Nat.reduceEqDiff, if_true, if_false, Bool.true_eq_false]
        exact hQ σ hR
      | false =>
        have hE1 : ¬ w.2.1.2 = true := by rw [hE]; decide
        rw [if_neg hE1] at hQ
        have ht := fun Q => c_take (X := X) (d := d) (B := B) (g := g) (Q := Q) hR.1.1.1 hn
        rw [md_take_eq hR.2.1] at ht
        have e0 : (0 : Int32) = nI 0 := rfl
        have hj := fun Q => c_joined (X := X) (d := d) (B := B) (g := g) (Q := Q) (σ := md_wr σ (cN w.1) 0 w.2.1) (n := cN w.1) (f := 0) (a := p) (b := q) (lb := w.2.1.1) hR.1.1.1 hn (by decide) hp hq (fun l hl => ⟨md_wr_row _ _ hl, by have := sp_va_bd hw.2.1 l hl; omega⟩)
        obtain ⟨j1, j2⟩ := md_jn_wr σ (cN w.1) 0 p q w.2.1
        rw [j1, j2] at hj
        have hj0 : ∀ Q, ev_C X d m_Md_joined [.ref B, .int 0, .int (nI p), .int (nI q)] (md_put B (md_wr σ (cN w.1) 0 w.2.1) g) Q ↔ _ := fun Q => hj Q
        have hbk := fun Q => c_back (X := X) (d := d) (B := B) (g := g) (Q := Q) (σ := md_wr σ (cN w.1) 0 (sp_j w.2.1 p q)) (n := cN w.1) hR.1.1.1 hn (by rw [md_wr_c]; exact sp_zb_01 _)
        have hbR := md_R_back (md_R_fr (md_wr_fr0 σ (cN w.1) (sp_j w.2.1 p q)) hR hR.2.2.2.2) ⟨fun l hl => md_wr_row _ _ hl, md_wr_c _ _ _ _⟩
        have a9 : (md_si (md_fi (md_wr σ (cN w.1) 0 (sp_j w.2.1 p q)) 8 ((md_wr σ (cN w.1) 0 (sp_j w.2.1 p q)).2 26) 0 (2 * cN w.1)) 9 ((md_wr σ (cN w.1) 0 (sp_j w.2.1 p q)).2 27 0)).1 9 = sp_zb (sp_j w.2.1 p q).2 := hbR.2.1.2
        simp (disch := first | exact ev_ok_i _ | exact ev_ok_r _ | exact ev_ok_n | omega | assumption) only [e_Md_join_28, e_Md_join_29, e_Md_join_32, e_Md_join_33, e_Md_join_34, e_Md_join_35, e_Md_join_36, e_Md_join_39, e_Md_join_40, e_Md_join_41, ev_rm_n, ev_rm_i, ev_rm_r, ev_rm_l, ev_ok_n, ev_ok_i, ev_ok_r, Option.toList_some, Option.toList_none, List.cons_append, List.nil_append, true_and, and_true, true_or, or_true, reduceIte, Nat.reduceEqDiff, if_true, if_false, md_rc, md_si_1, md_si_2, md_sa_1, md_sa_2, mg_kind, mr_kind, mw_kind, mg_one, mr_one, mw_one, mg_two, mr_two, mw_two, mg_variables, mp_variables, mg_inputs, mp_inputs, mg_inputOf, mr_inputOf, mw_inputOf, mg_nameSign, mr_nameSign, mw_nameSign, mg_nameSize, mr_nameSize, mw_nameSize, mg_label, mr_label, mw_label, mg_isContrary, mp_isContrary, mg_text, mr_text, mw_text, mg_textSize, mp_textSize, mg_at, mp_at, mg_token, mp_token, mg_tokenAt, mp_tokenAt, mg_tokenSize, mp_tokenSize, mg_scanned, mp_scanned, mg_fault, mp_fault, mg_faultAt, mp_faultAt, mg_place, mp_place, mg_open, mp_open, mg_level, mr_level, mw_level, mg_stage, mr_stage, mw_stage, mg_held, mr_held, mw_held, mg_signPlace, mr_signPlace, mw_signPlace, mg_value, mp_value, mg_row, mr_row, mw_row, mg_contrary, mr_contrary, mw_contrary, mg_firstRow, mr_firstRow, mw_firstRow, mg_firstContrary, mr_firstContrary, mw_firstContrary, mg_depthOf, mr_depthOf, mw_depthOf, mg_phase, mr_phase, mw_phase, mg_tried, mr_tried, mw_tried, mg_before, mr_before, mw_before, mg_old, mr_old, mw_old, mg_steps, mp_steps, mg_mostSteps, mp_mostSteps, mg_rounds, mp_rounds, mg_passes, mp_passes, mg_branches, mp_branches, mg_worth, mr_worth, mw_worth, ht, hj0, hbk]
        generalize hS : md_si (md_fi (md_wr σ (cN w.1) 0 (sp_j w.2.1 p q)) 8 ((md_wr σ (cN w.1) 0 (sp_j w.2.1 p q)).2 26) 0 (2 * cN w.1)) 9 ((md_wr σ (cN w.1) 0 (sp_j w.2.1 p q)).2 27 0) = τ at hbR a9
        have hQ2 := hQ τ hbR
        simp (disch := first | exact ev_ok_i _ | exact ev_ok_r _ | exact ev_ok_n | omega | assumption) only [e_Md_join_44, e_Md_join_45, e_Md_join_48, ev_rm_n, ev_rm_i, ev_rm_r, ev_rm_l, ev_ok_n, ev_ok_i, ev_ok_r, Option.toList_some, Option.toList_none, List.cons_append, List.nil_append, true_and, and_true, true_or, or_true, reduceIte, Nat.reduceEqDiff, if_true, if_false, md_rc, md_si_1, md_si_2, md_sa_1, md_sa_2, mg_kind, mr_kind, mw_kind, mg_one, mr_one, mw_one, mg_two, mr_two, mw_two, mg_variables, mp_variables, mg_inputs, mp_inputs, mg_inputOf, mr_inputOf, mw_inputOf, mg_nameSign, mr_nameSign, mw_nameSign, mg_nameSize, mr_nameSize, mw_nameSize, mg_label, mr_label, mw_label, mg_isContrary, mp_isContrary, mg_text, mr_text, mw_text, mg_textSize, mp_textSize, mg_at, mp_at, mg_token, mp_token, mg_tokenAt, mp_tokenAt, mg_tokenSize, mp_tokenSize, mg_scanned, mp_scanned, mg_fault, mp_fault, mg_faultAt, mp_faultAt, mg_place, mp_place, mg_open, mp_open, mg_level, mr_level, mw_level, mg_stage, mr_stage, mw_stage, mg_held, mr_held, mw_held, mg_signPlace, mr_signPlace, mw_signPlace, mg_value, mp_value, mg_row, mr_row, mw_row, mg_contrary, mr_contrary, mw_contrary, mg_firstRow, mr_firstRow, mw_firstRow, mg_firstContrary, mr_firstContrary, mw_firstContrary, mg_depthOf, mr_depthOf, mw_depthOf, mg_phase, mr_phase, mw_phase, mg_tried, mr_tried, mw_tried, mg_before, mr_before, mw_before, mg_old, mr_old, mw_old, mg_steps, mp_steps, mg_mostSteps, mp_mostSteps, mg_rounds, mp_rounds, mg_passes, mp_passes, mg_branches, mp_branches, mg_worth, mr_worth, mw_worth, a9, sp_zb_0]
        cases hc : (sp_j w.2.1 p q).2 with
        | true =>
          rw [if_pos hc] at hQ2
          simp (disch := first | exact ev_ok_i _ | exact ev_ok_r _ | exact ev_ok_n | omega | assumption) only [e_Md_join_51, e_Md_join_52, e_Md_join_64, ev_rm_n, ev_rm_i, ev_rm_r, ev_rm_l, ev_ok_n, ev_ok_i, ev_ok_r, Option.toList_some, Option.toList_none, List.cons_append, List.nil_append, true_and, and_true, true_or, or_true, reduceIte, Nat.reduceEqDiff, if_true, if_false, Bool.true_eq_false]
          exact hQ2
        | false =>
          rw [if_neg (by rw [hc]; decide)] at hQ2
          have hne : ¬ (w.2.1.1 p ≠ w.2.1.1 q ∧ w.2.1.1 p = w.2.1.1 (q ^^^ 1)) := fun z => by
            have : (sp_j w.2.1 p q).2 = true := by
              unfold sp_j
              rw [if_neg (by rw [hE]; simp [z.1]), if_pos z.2]
            rw [hc] at this
            cases this
          by_cases hpq : w.2.1.1 p = w.2.1.1 q
          · rw [if_pos hpq] at hQ2
            simp (disch := first | exact ev_ok_i _ | exact ev_ok_r _ | exact ev_ok_n | omega | assumption) only [e_Md_join_55, e_Md_join_56, e_Md_join_63, e_Md_join_64, ev_rm_n, ev_rm_i, ev_rm_r, ev_rm_l, ev_ok_n, ev_ok_i, ev_ok_r, Option.toList_some, Option.toList_none, List.cons_append, List.nil_append, true_and, and_true, true_or, or_true, reduceIte, Nat.reduceEqDiff, if_true, if_false, hpq, true_or, or_true]
            exact hQ2
          · rw [if_neg hpq] at hQ2
            have hx : ¬ (w.2.1.2 = true ∨ w.2.1.1 p = w.2.1.1 q ∨ w.2.1.1 p = w.2.1.1 (q ^^^ 1)) := fun z => by
              rcases z with z | z | z
              · exact hE1 z
              · exact hpq z
              · exact hne ⟨hpq, z⟩
            simp (disch := first | exact ev_ok_i _ | exact ev_ok_r _ | exact ev_ok_n | omega | assumption) only [e_Md_join_55, e_Md_join_56, e_Md_join_59, e_Md_join_60, e_Md_join_64, ev_rm_n, ev_rm_i, ev_rm_r, ev_rm_l, ev_ok_n, ev_ok_i, ev_ok_r, Option.toList_some, Option.toList_none, List.cons_append, List.nil_append, true_and, and_true, true_or, or_true, reduceIte, Nat.reduceEqDiff, if_true, if_false, hx, i_10]
            exact hQ2
theorem c_saturate (hR : md_R σ w) (hw : sp_wok w) (a b : Int32) (hQ : ∀ σ2, md_R σ2 (sp_satu w a b).2 → Q (some (.int (sp_satu w a b).1)) (md_put B σ2 g)) : ev_C X (d + 6) m_Md_saturate [.ref B, .int a, .int b] (md_put B σ g) Q := by
  show ev_R X (d + 6) m_Md_saturate 0 [some (.ref B), some (.int a), some (.int b)] [] (md_put B σ g) Q
  have hn := hw.1.1.2.1
  have h9 := hR.2.1.2
  have ho := fun Q => c_isOut (X := X) (d := d + 5) (g := md_put B σ g) (Q := Q) a b
  unfold sp_satu at hQ
  simp (disch := first | exact ev_ok_i _ | exact ev_ok_r _ | exact ev_ok_n | omega | assumption) only [e_Md_saturate_0, e_Md_saturate_1, e_Md_saturate_2, e_Md_saturate_5, ev_rm_n, ev_rm_i, ev_rm_r, ev_rm_l, ev_ok_n, ev_ok_i, ev_ok_r, Option.toList_some, Option.toList_none, List.cons_append, List.nil_append, true_and, and_true, true_or, or_true, reduceIte, Nat.reduceEqDiff, if_true, if_false, ho]
  by_cases hout : sp_out a b
  · rw [if_pos hout] at hQ
    simp (disch := first | exact ev_ok_i _ | exact ev_ok_r _ | exact ev_ok_n | omega | assumption) only [hout, e_Md_saturate_8, e_Md_saturate_10, ev_rm_n, ev_rm_i, ev_rm_r, ev_rm_l, ev_ok_n, ev_ok_i, ev_ok_r, Option.toList_some, Option.toList_none, List.cons_append, List.nil_append, true_and, and_true, true_or, or_true, reduceIte, Nat.reduceEqDiff, if_true, if_false, i_10]
    exact hQ σ hR
  · rw [if_neg hout] at hQ
    simp (disch := first | exact ev_ok_i _ | exact ev_ok_r _ | exact ev_ok_n | omega | assumption) only [hout, e_Md_saturate_11, e_Md_saturate_12, e_Md_saturate_15, ev_rm_n, ev_rm_i, ev_rm_r, ev_rm_l, ev_ok_n, ev_ok_i, ev_ok_r, Option.toList_some, Option.toList_none, List.cons_append, List.nil_append, true_and, and_true, true_or, or_true, reduceIte, Nat.reduceEqDiff, if_true, if_false, md_rc, md_si_1, md_si_2, md_sa_1, md_sa_2, mg_kind, mr_kind, mw_kind, mg_one, mr_one, mw_one, mg_two, mr_two, mw_two, mg_variables, mp_variables, mg_inputs, mp_inputs, mg_inputOf, mr_inputOf, mw_inputOf, mg_nameSign, mr_nameSign, mw_nameSign, mg_nameSize, mr_nameSize, mw_nameSize, mg_label, mr_label, mw_label, mg_isContrary, mp_isContrary, mg_text, mr_text, mw_text, mg_textSize, mp_textSize, mg_at, mp_at, mg_token, mp_token, mg_tokenAt, mp_tokenAt, mg_tokenSize, mp_tokenSize, mg_scanned, mp_scanned, mg_fault, mp_fault, mg_faultAt, mp_faultAt, mg_place, mp_place, mg_open, mp_open, mg_level, mr_level, mw_level, mg_stage, mr_stage, mw_stage, mg_held, mr_held, mw_held, mg_signPlace, mr_signPlace, mw_signPlace, mg_value, mp_value, mg_row, mr_row, mw_row, mg_contrary, mr_contrary, mw_contrary, mg_firstRow, mr_firstRow, mw_firstRow, mg_firstContrary, mr_firstContrary, mw_firstContrary, mg_depthOf, mr_depthOf, mw_depthOf, mg_phase, mr_phase, mw_phase, mg_tried, mr_tried, mw_tried, mg_before, mr_before, mw_before, mg_old, mr_old, mw_old, mg_steps, mp_steps, mg_mostSteps, mp_mostSteps, mg_rounds, mp_rounds, mg_passes, mp_passes, mg_branches, mp_branches, mg_worth, mr_worth, mw_worth, h9, sp_zb_0]
    cases hE : w.2.1.2 with
    | true =>
      rw [if_pos hE] at hQ
      simp (disch := first | exact ev_ok_i _ | exact ev_ok_r _ | exact ev_ok_n | omega | assumption) only [e_Md_saturate_18, e_Md_saturate_20, ev_rm_n, ev_rm_i, ev_rm_r, ev_rm_l, ev_ok_n, ev_ok_i, ev_ok_r, Option.toList_some, Option.toList_none, List.cons_append, List.nil_append, true_and, and_true, true_or, or_true, reduceIte, Nat.reduceEqDiff, if_true, if_false, Bool.true_eq_false]
      exact hQ σ hR
    | false =>
      rw [if_neg (by rw [hE]; decide)] at hQ
      obtain ⟨x, y, hx, hy, rfl, rfl⟩ := sp_out_n hout
      rw [nI_clamp (by omega), nI_clamp (by omega)] at hQ
      have hbt := fun Q => c_beginTold (X := X) (d := d + 5) (B := B) (g := g) (Q := Q) (σ := σ) (nI y)
      generalize hσ1 : md_si (md_si (md_si (md_si (md_si σ 35 0) 36 (nI y)) 37 0) 38 0) 39 0 = σ1 at hbt
      have hR1 : md_R σ1 (w.1, w.2.1, w.2.2.1, w.2.2.2.1, (0, 0, 0, 0)) := by
        subst hσ1
        exact ⟨⟨⟨hR.1.1.1, hR.1.1.2.1, hR.1.1.2.2.1, fun v hv => hR.1.1.2.2.2 v hv⟩, hR.1.2.1, fun i hi => hR.1.2.2 i hi⟩, hR.2.1, hR.2.2.1, hR.2.2.2.1, rfl, rfl, rfl, rfl⟩
      have h36 : σ1.1 36 = nI y := by subst hσ1; rfl
      have ht := fun Q => c_take (X := X) (d := d + 5) (B := B) (g := g) (Q := Q) hR1.1.1.1 hn
      rw [md_take_eq hR1.2.1] at ht
      simp (disch := first | exact ev_ok_i _ | exact ev_ok_r _ | exact ev_ok_n | omega | assumption) only [e_Md_saturate_21, e_Md_saturate_22, e_Md_saturate_23, e_Md_saturate_26, e_Md_saturate_27, e_Md_saturate_30, e_Md_saturate_31, e_Md_saturate_32, ev_rm_n, ev_rm_i, ev_rm_r, ev_rm_l, ev_ok_n, ev_ok_i, ev_ok_r, Option.toList_some, Option.toList_none, List.cons_append, List.nil_append, true_and, and_true, true_or, or_true, reduceIte, Nat.reduceEqDiff, if_true, if_false, md_rc, md_si_1, md_si_2, md_sa_1, md_sa_2, mg_kind, mr_kind, mw_kind, mg_one, mr_one, mw_one, mg_two, mr_two, mw_two, mg_variables, mp_variables, mg_inputs, mp_inputs, mg_inputOf, mr_inputOf, mw_inputOf, mg_nameSign, mr_nameSign, mw_nameSign, mg_nameSize, mr_nameSize, mw_nameSize, mg_label, mr_label, mw_label, mg_isContrary, mp_isContrary, mg_text, mr_text, mw_text, mg_textSize, mp_textSize, mg_at, mp_at, mg_token, mp_token, mg_tokenAt, mp_tokenAt, mg_tokenSize, mp_tokenSize, mg_scanned, mp_scanned, mg_fault, mp_fault, mg_faultAt, mp_faultAt, mg_place, mp_place, mg_open, mp_open, mg_level, mr_level, mw_level, mg_stage, mr_stage, mw_stage, mg_held, mr_held, mw_held, mg_signPlace, mr_signPlace, mw_signPlace, mg_value, mp_value, mg_row, mr_row, mw_row, mg_contrary, mr_contrary, mw_contrary, mg_firstRow, mr_firstRow, mw_firstRow, mg_firstContrary, mr_firstContrary, mw_firstContrary, mg_depthOf, mr_depthOf, mw_depthOf, mg_phase, mr_phase, mw_phase, mg_tried, mr_tried, mw_tried, mg_before, mr_before, mw_before, mg_old, mr_old, mw_old, mg_steps, mp_steps, mg_mostSteps, mp_mostSteps, mg_rounds, mp_rounds, mg_passes, mp_passes, mg_branches, mp_branches, mg_worth, mr_worth, mw_worth, hbt, ht]
      have F := md_wr_fr0 σ1 (cN w.1) w.2.1
      refine c_saturated (n := cN w.1) (kd := cK w.1) (o1 := cA w.1) (o2 := cB w.1) (ms := y) (k := x) (E := w.2.1) (t := (0, 0, 0, 0)) (md_ci_fr F hR1.1.1) (sp_cok_wf hw.1) (md_ms_fr F h36) (by omega) (sp_ok_0 hw y) ⟨fun l hl => md_wr_row _ _ hl, md_wr_c _ _ _ _⟩ hR1.2.2.2.2 hx (fun hz σ2 f1 f2 => ?_) (fun hz σ2 f1 f2 f3 => ?_)
      · rw [if_pos hz] at hQ
        simp (disch := first | exact ev_ok_i _ | exact ev_ok_r _ | exact ev_ok_n | omega | assumption) only [e_Md_saturate_35, e_Md_saturate_38, e_Md_saturate_40, ev_rm_n, ev_rm_i, ev_rm_r, ev_rm_l, ev_ok_n, ev_ok_i, ev_ok_r, Option.toList_some, Option.toList_none, List.cons_append, List.nil_append, true_and, and_true, true_or, or_true, reduceIte, Nat.reduceEqDiff, if_true, if_false, not_true_eq_false]
        exact hQ σ2 (md_R_fr (w := (w.1, w.2.1, w.2.2.1, w.2.2.2.1, (0, 0, 0, 0))) (md_fr_tr F f1 (Nat.le_refl 0)) hR1 f2)
      · rw [if_neg (by rw [hz]; decide)] at hQ
        have hR2 := md_R_fr (md_fr_tr F f1 (Nat.le_refl 0)) hR1 f2
        have hbk := fun Q => c_back (X := X) (d := d + 5) (B := B) (g := g) (Q := Q) (σ := σ2) (n := cN w.1) hR2.1.1.1 hn (by rw [f3.2]; exact sp_zb_01 _)
        have hbR := md_R_back hR2 f3
        have a9 := hbR.2.1.2
        simp (disch := first | exact ev_ok_i _ | exact ev_ok_r _ | exact ev_ok_n | omega | assumption) only [e_Md_saturate_35, e_Md_saturate_41, e_Md_saturate_42, ev_rm_n, ev_rm_i, ev_rm_r, ev_rm_l, ev_ok_n, ev_ok_i, ev_ok_r, Option.toList_some, Option.toList_none, List.cons_append, List.nil_append, true_and, and_true, true_or, or_true, reduceIte, Nat.reduceEqDiff, if_true, if_false, md_rc, md_si_1, md_si_2, md_sa_1, md_sa_2, mg_kind, mr_kind, mw_kind, mg_one, mr_one, mw_one, mg_two, mr_two, mw_two, mg_variables, mp_variables, mg_inputs, mp_inputs, mg_inputOf, mr_inputOf, mw_inputOf, mg_nameSign, mr_nameSign, mw_nameSign, mg_nameSize, mr_nameSize, mw_nameSize, mg_label, mr_label, mw_label, mg_isContrary, mp_isContrary, mg_text, mr_text, mw_text, mg_textSize, mp_textSize, mg_at, mp_at, mg_token, mp_token, mg_tokenAt, mp_tokenAt, mg_tokenSize, mp_tokenSize, mg_scanned, mp_scanned, mg_fault, mp_fault, mg_faultAt, mp_faultAt, mg_place, mp_place, mg_open, mp_open, mg_level, mr_level, mw_level, mg_stage, mr_stage, mw_stage, mg_held, mr_held, mw_held, mg_signPlace, mr_signPlace, mw_signPlace, mg_value, mp_value, mg_row, mr_row, mw_row, mg_contrary, mr_contrary, mw_contrary, mg_firstRow, mr_firstRow, mw_firstRow, mg_firstContrary, mr_firstContrary, mw_firstContrary, mg_depthOf, mr_depthOf, mw_depthOf, mg_phase, mr_phase, mw_phase, mg_tried, mr_tried, mw_tried, mg_before, mr_before, mw_before, mg_old, mr_old, mw_old, mg_steps, mp_steps, mg_mostSteps, mp_mostSteps, mg_rounds, mp_rounds, mg_passes, mp_passes, mg_branches, mp_branches, mg_worth, mr_worth, mw_worth, i_10, not_false_eq_true, hbk]
        generalize hS : md_si (md_fi σ2 8 (σ2.2 26) 0 (2 * cN w.1)) 9 (σ2.2 27 0) = τ at hbR a9
        have hQ2 := hQ τ hbR
        simp (disch := first | exact ev_ok_i _ | exact ev_ok_r _ | exact ev_ok_n | omega | assumption) only [e_Md_saturate_45, e_Md_saturate_46, e_Md_saturate_49, ev_rm_n, ev_rm_i, ev_rm_r, ev_rm_l, ev_ok_n, ev_ok_i, ev_ok_r, Option.toList_some, Option.toList_none, List.cons_append, List.nil_append, true_and, and_true, true_or, or_true, reduceIte, Nat.reduceEqDiff, if_true, if_false, md_rc, md_si_1, md_si_2, md_sa_1, md_sa_2, mg_kind, mr_kind, mw_kind, mg_one, mr_one, mw_one, mg_two, mr_two, mw_two, mg_variables, mp_variables, mg_inputs, mp_inputs, mg_inputOf, mr_inputOf, mw_inputOf, mg_nameSign, mr_nameSign, mw_nameSign, mg_nameSize, mr_nameSize, mw_nameSize, mg_label, mr_label, mw_label, mg_isContrary, mp_isContrary, mg_text, mr_text, mw_text, mg_textSize, mp_textSize, mg_at, mp_at, mg_token, mp_token, mg_tokenAt, mp_tokenAt, mg_tokenSize, mp_tokenSize, mg_scanned, mp_scanned, mg_fault, mp_fault, mg_faultAt, mp_faultAt, mg_place, mp_place, mg_open, mp_open, mg_level, mr_level, mw_level, mg_stage, mr_stage, mw_stage, mg_held, mr_held, mw_held, mg_signPlace, mr_signPlace, mw_signPlace, mg_value, mp_value, mg_row, mr_row, mw_row, mg_contrary, mr_contrary, mw_contrary, mg_firstRow, mr_firstRow, mw_firstRow, mg_firstContrary, mr_firstContrary, mw_firstContrary, mg_depthOf, mr_depthOf, mw_depthOf, mg_phase, mr_phase, mw_phase, mg_tried, mr_tried, mw_tried, mg_before, mr_before, mw_before, mg_old, mr_old, mw_old, mg_steps, mp_steps, mg_mostSteps, mp_mostSteps, mg_rounds, mp_rounds, mg_passes, mp_passes, mg_branches, mp_branches, mg_worth, mr_worth, mw_worth, a9, sp_zb_0]
        cases hc : (sp_sk (cN w.1) (cK w.1) (cA w.1) (cB w.1) y x w.2.1 (0, 0, 0, 0)).2.1.2 with
        | true =>
          rw [if_pos hc] at hQ2
          simp (disch := first | exact ev_ok_i _ | exact ev_ok_r _ | exact ev_ok_n | omega | assumption) only [e_Md_saturate_52, e_Md_saturate_53, e_Md_saturate_57, ev_rm_n, ev_rm_i, ev_rm_r, ev_rm_l, ev_ok_n, ev_ok_i, ev_ok_r, Option.toList_some, Option.toList_none, List.cons_append, List.nil_append, true_and, and_true, true_or, or_true, reduceIte, Nat.reduceEqDiff, if_true, if_false, Bool.true_eq_false]
          exact hQ2
        | false =>
          rw [if_neg (by rw [hc]; decide)] at hQ2
          simp (disch := first | exact ev_ok_i _ | exact ev_ok_r _ | exact ev_ok_n | omega | assumption) only [e_Md_saturate_56, e_Md_saturate_57, ev_rm_n, ev_rm_i, ev_rm_r, ev_rm_l, ev_ok_n, ev_ok_i, ev_ok_r, Option.toList_some, Option.toList_none, List.cons_append, List.nil_append, true_and, and_true, true_or, or_true, reduceIte, Nat.reduceEqDiff, if_true, if_false]
          exact hQ2
/-- the row 0 with every literal alone -/
theorem c_prove_row {n : Nat} (h3 : σ.1 3 = nI n) (hn : n ≤ 120) {l1 l2 l3 : Option Value} (o3 : ev_ok l3 = true) : ∀ (m v : Nat), v + m = 2 * n → (ev_R X d m_Md_prove 29 [some (.ref B), l1, l2, l3, some (.int (nI v))] [] (md_put B (md_fi σ 26 nI 0 v) g) Q ↔ ev_R X d m_Md_prove 62 [some (.ref B), l1, l2, l3, some (.int (nI (2 * n)))] [] (md_put B (md_wr σ n 0 sp_id) g) Q) := by
  intro m
  induction m with
  | zero =>
    intro v hv
    have e : v = 2 * n := by omega
    subst e
    have h00 : (0 : Int32).toNatClampNeg = 0 := rfl
    have e0 : md_sa (md_fi σ 26 nI 0 (2 * n)) 27 0 (vp_nar .boolean 0) = md_wr σ n 0 sp_id := by
      unfold md_wr
      simp only [Nat.mul_zero, Nat.zero_add, Nat.sub_zero]
      rfl
    simp (disch := first | exact ev_ok_i _ | exact ev_ok_r _ | exact ev_ok_n | omega | assumption) only [e_Md_prove_29, e_Md_prove_31, e_Md_prove_32, e_Md_prove_33, e_Md_prove_36, e_Md_prove_37, e_Md_prove_55, e_Md_prove_56, e_Md_prove_59, e_Md_prove_60, e_Md_prove_61, ev_rm_n, ev_rm_i, ev_rm_r, ev_rm_l, ev_ok_n, ev_ok_i, ev_ok_r, Option.toList_some, Option.toList_none, List.cons_append, List.nil_append, true_and, and_true, true_or, or_true, reduceIte, Nat.reduceEqDiff, if_true, if_false, md_rc, md_si_1, md_si_2, md_sa_1, md_sa_2, mg_kind, mr_kind, mw_kind, mg_one, mr_one, mw_one, mg_two, mr_two, mw_two, mg_variables, mp_variables, mg_inputs, mp_inputs, mg_inputOf, mr_inputOf, mw_inputOf, mg_nameSign, mr_nameSign, mw_nameSign, mg_nameSize, mr_nameSize, mw_nameSize, mg_label, mr_label, mw_label, mg_isContrary, mp_isContrary, mg_text, mr_text, mw_text, mg_textSize, mp_textSize, mg_at, mp_at, mg_token, mp_token, mg_tokenAt, mp_tokenAt, mg_tokenSize, mp_tokenSize, mg_scanned, mp_scanned, mg_fault, mp_fault, mg_faultAt, mp_faultAt, mg_place, mp_place, mg_open, mp_open, mg_level, mr_level, mw_level, mg_stage, mr_stage, mw_stage, mg_held, mr_held, mw_held, mg_signPlace, mr_signPlace, mw_signPlace, mg_value, mp_value, mg_row, mr_row, mw_row, mg_contrary, mr_contrary, mw_contrary, mg_firstRow, mr_firstRow, mw_firstRow, mg_firstContrary, mr_firstContrary, mw_firstContrary, mg_depthOf, mr_depthOf, mw_depthOf, mg_phase, mr_phase, mw_phase, mg_tried, mr_tried, mw_tried, mg_before, mr_before, mw_before, mg_old, mr_old, mw_old, mg_steps, mp_steps, mg_mostSteps, mp_mostSteps, mg_rounds, mp_rounds, mg_passes, mp_passes, mg_branches, mp_branches, mg_worth, mr_worth, mw_worth, md_fi_1, h3, nL_2, nI_leI, Nat.le_refl, xo_o0, h00]
    rw [e0]
  | succ m ih =>
    intro v hv
    have hih := ih (v + 1) (by omega)
    have hlt : ¬ 2 * n ≤ v := by omega
    simp (disch := first | exact ev_ok_i _ | exact ev_ok_r _ | exact ev_ok_n | omega | assumption) only [e_Md_prove_29, e_Md_prove_31, e_Md_prove_32, e_Md_prove_33, e_Md_prove_36, e_Md_prove_37, e_Md_prove_40, e_Md_prove_41, e_Md_prove_44, e_Md_prove_46, e_Md_prove_48, e_Md_prove_49, ev_rm_n, ev_rm_i, ev_rm_r, ev_rm_l, ev_ok_n, ev_ok_i, ev_ok_r, Option.toList_some, Option.toList_none, List.cons_append, List.nil_append, true_and, and_true, true_or, or_true, reduceIte, Nat.reduceEqDiff, if_true, if_false, md_rc, md_si_1, md_si_2, md_sa_1, md_sa_2, mg_kind, mr_kind, mw_kind, mg_one, mr_one, mw_one, mg_two, mr_two, mw_two, mg_variables, mp_variables, mg_inputs, mp_inputs, mg_inputOf, mr_inputOf, mw_inputOf, mg_nameSign, mr_nameSign, mw_nameSign, mg_nameSize, mr_nameSize, mw_nameSize, mg_label, mr_label, mw_label, mg_isContrary, mp_isContrary, mg_text, mr_text, mw_text, mg_textSize, mp_textSize, mg_at, mp_at, mg_token, mp_token, mg_tokenAt, mp_tokenAt, mg_tokenSize, mp_tokenSize, mg_scanned, mp_scanned, mg_fault, mp_fault, mg_faultAt, mp_faultAt, mg_place, mp_place, mg_open, mp_open, mg_level, mr_level, mw_level, mg_stage, mr_stage, mw_stage, mg_held, mr_held, mw_held, mg_signPlace, mr_signPlace, mw_signPlace, mg_value, mp_value, mg_row, mr_row, mw_row, mg_contrary, mr_contrary, mw_contrary, mg_firstRow, mr_firstRow, mw_firstRow, mg_firstContrary, mr_firstContrary, mw_firstContrary, mg_depthOf, mr_depthOf, mw_depthOf, mg_phase, mr_phase, mw_phase, mg_tried, mr_tried, mw_tried, mg_before, mr_before, mw_before, mg_old, mr_old, mw_old, mg_steps, mp_steps, mg_mostSteps, mp_mostSteps, mg_rounds, mp_rounds, mg_passes, mp_passes, mg_branches, mp_branches, mg_worth, mr_worth, mw_worth, md_fi_1, h3, nL_2, nI_leI, hlt, xo_in, nI_clamp, nI_1]
    rw [e_Md_prove_52, md_fi_s σ 26 nI (Nat.zero_le v) rfl]
    exact hih
theorem c_prove_loop {n ms x : Nat} {kd o1 o2 : Nat → Nat} (hc : md_ci σ n kd o1 o2) (hw : sp_wf n kd o1 o2) (hm : σ.1 36 = nI ms) (hms : ms < 2 ^ 31) (hx : x ≤ 4) {l1 l3 : Option Value} (o3 : ev_ok l3 = true) : ∀ (m k : Nat) (E : sp_E) (t : sp_T) (σ1 : md_S), k + m = x + 1 → md_fr σ σ1 0 → sp_ok n ms E t → md_rw σ1 n 0 E → md_tt σ1 t → (∀ σ2, md_fr σ σ2 0 → md_tt σ2 (sp_pvl (sp_sk n kd o1 o2 ms) m k E t).2 → Q (some (.int (sp_pvl (sp_sk n kd o1 o2 ms) m k E t).1)) (md_put B σ2 g)) → ev_R X (d + 6) m_Md_prove 72 [some (.ref B), l1, some (.int (nI x)), l3, some (.int (nI k))] [] (md_put B σ1 g) Q := by
  intro m
  induction m with
  | zero =>
    intro k E t σ1 hk f1 ho hr ht hQ
    have hlt : x < k := by omega
    simp (disch := first | exact ev_ok_i _ | exact ev_ok_r _ | exact ev_ok_n | omega | assumption) only [e_Md_prove_72, e_Md_prove_74, e_Md_prove_75, e_Md_prove_108, e_Md_prove_110, ev_rm_n, ev_rm_i, ev_rm_r, ev_rm_l, ev_ok_n, ev_ok_i, ev_ok_r, Option.toList_some, Option.toList_none, List.cons_append, List.nil_append, true_and, and_true, true_or, or_true, reduceIte, Nat.reduceEqDiff, if_true, if_false, nI_ltI, hlt]
    exact hQ σ1 f1 ht
  | succ m ih =>
    intro k E t σ1 hk f1 ho hr ht hQ
    have hlt : ¬ x < k := by omega
    simp (disch := first | exact ev_ok_i _ | exact ev_ok_r _ | exact ev_ok_n | omega | assumption) only [e_Md_prove_72, e_Md_prove_74, e_Md_prove_75, e_Md_prove_78, e_Md_prove_79, e_Md_prove_81, ev_rm_n, ev_rm_i, ev_rm_r, ev_rm_l, ev_ok_n, ev_ok_i, ev_ok_r, Option.toList_some, Option.toList_none, List.cons_append, List.nil_append, true_and, and_true, true_or, or_true, reduceIte, Nat.reduceEqDiff, if_true, if_false, md_rc, md_si_1, md_si_2, md_sa_1, md_sa_2, mg_kind, mr_kind, mw_kind, mg_one, mr_one, mw_one, mg_two, mr_two, mw_two, mg_variables, mp_variables, mg_inputs, mp_inputs, mg_inputOf, mr_inputOf, mw_inputOf, mg_nameSign, mr_nameSign, mw_nameSign, mg_nameSize, mr_nameSize, mw_nameSize, mg_label, mr_label, mw_label, mg_isContrary, mp_isContrary, mg_text, mr_text, mw_text, mg_textSize, mp_textSize, mg_at, mp_at, mg_token, mp_token, mg_tokenAt, mp_tokenAt, mg_tokenSize, mp_tokenSize, mg_scanned, mp_scanned, mg_fault, mp_fault, mg_faultAt, mp_faultAt, mg_place, mp_place, mg_open, mp_open, mg_level, mr_level, mw_level, mg_stage, mr_stage, mw_stage, mg_held, mr_held, mw_held, mg_signPlace, mr_signPlace, mw_signPlace, mg_value, mp_value, mg_row, mr_row, mw_row, mg_contrary, mr_contrary, mw_contrary, mg_firstRow, mr_firstRow, mw_firstRow, mg_firstContrary, mr_firstContrary, mw_firstContrary, mg_depthOf, mr_depthOf, mw_depthOf, mg_phase, mr_phase, mw_phase, mg_tried, mr_tried, mw_tried, mg_before, mr_before, mw_before, mg_old, mr_old, mw_old, mg_steps, mp_steps, mg_mostSteps, mp_mostSteps, mg_rounds, mp_rounds, mg_passes, mp_passes, mg_branches, mp_branches, mg_worth, mr_worth, mw_worth, nI_ltI, hlt]
    unfold sp_pvl at hQ
    refine c_saturated (n := n) (kd := kd) (o1 := o1) (o2 := o2) (ms := ms) (k := k) (E := E) (t := t) (md_ci_fr f1 hc) hw (md_ms_fr f1 hm) hms ho hr ht (by omega) (fun hz σ2 f2 f3 => ?_) (fun hz σ2 f2 f3 f4 => ?_)
    · rw [if_pos hz] at hQ
      simp (disch := first | exact ev_ok_i _ | exact ev_ok_r _ | exact ev_ok_n | omega | assumption) only [e_Md_prove_84, e_Md_prove_87, e_Md_prove_89, ev_rm_n, ev_rm_i, ev_rm_r, ev_rm_l, ev_ok_n, ev_ok_i, ev_ok_r, Option.toList_some, Option.toList_none, List.cons_append, List.nil_append, true_and, and_true, true_or, or_true, reduceIte, Nat.reduceEqDiff, if_true, if_false, not_true_eq_false]
      exact hQ σ2 (md_fr_tr f1 f2 (Nat.le_refl 0)) f3
    · rw [if_neg (by rw [hz]; decide)] at hQ
      have h27 := f4.2
      have h00 : (0 : Int32).toNatClampNeg = 0 := rfl
      simp (disch := first | exact ev_ok_i _ | exact ev_ok_r _ | exact ev_ok_n | omega | assumption) only [e_Md_prove_84, e_Md_prove_90, e_Md_prove_91, e_Md_prove_94, e_Md_prove_95, e_Md_prove_96, ev_rm_n, ev_rm_i, ev_rm_r, ev_rm_l, ev_ok_n, ev_ok_i, ev_ok_r, Option.toList_some, Option.toList_none, List.cons_append, List.nil_append, true_and, and_true, true_or, or_true, reduceIte, Nat.reduceEqDiff, if_true, if_false, md_rc, md_si_1, md_si_2, md_sa_1, md_sa_2, mg_kind, mr_kind, mw_kind, mg_one, mr_one, mw_one, mg_two, mr_two, mw_two, mg_variables, mp_variables, mg_inputs, mp_inputs, mg_inputOf, mr_inputOf, mw_inputOf, mg_nameSign, mr_nameSign, mw_nameSign, mg_nameSize, mr_nameSize, mw_nameSize, mg_label, mr_label, mw_label, mg_isContrary, mp_isContrary, mg_text, mr_text, mw_text, mg_textSize, mp_textSize, mg_at, mp_at, mg_token, mp_token, mg_tokenAt, mp_tokenAt, mg_tokenSize, mp_tokenSize, mg_scanned, mp_scanned, mg_fault, mp_fault, mg_faultAt, mp_faultAt, mg_place, mp_place, mg_open, mp_open, mg_level, mr_level, mw_level, mg_stage, mr_stage, mw_stage, mg_held, mr_held, mw_held, mg_signPlace, mr_signPlace, mw_signPlace, mg_value, mp_value, mg_row, mr_row, mw_row, mg_contrary, mr_contrary, mw_contrary, mg_firstRow, mr_firstRow, mw_firstRow, mg_firstContrary, mr_firstContrary, mw_firstContrary, mg_depthOf, mr_depthOf, mw_depthOf, mg_phase, mr_phase, mw_phase, mg_tried, mr_tried, mw_tried, mg_before, mr_before, mw_before, mg_old, mr_old, mw_old, mg_steps, mp_steps, mg_mostSteps, mp_mostSteps, mg_rounds, mp_rounds, mg_passes, mp_passes, mg_branches, mp_branches, mg_worth, mr_worth, mw_worth, i_10, not_false_eq_true, xo_o0, h00, h27, sp_zb_0]
      cases hcn : (sp_sk n kd o1 o2 ms k E t).2.1.2 with
      | true =>
        rw [if_pos hcn] at hQ
        simp (disch := first | exact ev_ok_i _ | exact ev_ok_r _ | exact ev_ok_n | omega | assumption) only [e_Md_prove_99, e_Md_prove_101, ev_rm_n, ev_rm_i, ev_rm_r, ev_rm_l, ev_ok_n, ev_ok_i, ev_ok_r, Option.toList_some, Option.toList_none, List.cons_append, List.nil_append, true_and, and_true, true_or, or_true, reduceIte, Nat.reduceEqDiff, if_true, if_false, Bool.true_eq_false]
        exact hQ σ2 (md_fr_tr f1 f2 (Nat.le_refl 0)) f3
      | false =>
        rw [if_neg (by rw [hcn]; decide)] at hQ
        simp (disch := first | exact ev_ok_i _ | exact ev_ok_r _ | exact ev_ok_n | omega | assumption) only [e_Md_prove_102, ev_rm_n, ev_rm_i, ev_rm_r, ev_rm_l, ev_ok_n, ev_ok_i, ev_ok_r, Option.toList_some, Option.toList_none, List.cons_append, List.nil_append, true_and, and_true, true_or, or_true, reduceIte, Nat.reduceEqDiff, if_true, if_false, nI_1]
        rw [e_Md_prove_105]
        exact ih (k + 1) _ _ σ2 (by omega) (md_fr_tr f1 f2 (Nat.le_refl 0)) (sp_sk_gd hw hc.2.1 k E t ho) f4 f3 hQ
theorem c_prove (hR : md_R σ w) (hw : sp_wok w) (l a b : Int32) (hQ : ∀ σ2, md_R σ2 (sp_prove w l a b).2 → Q (some (.int (sp_prove w l a b).1)) (md_put B σ2 g)) : ev_C X (d + 6) m_Md_prove [.ref B, .int l, .int a, .int b] (md_put B σ g) Q := by
  show ev_R X (d + 6) m_Md_prove 0 [some (.ref B), some (.int l), some (.int a), some (.int b), none] [] (md_put B σ g) Q
  have hn := hw.1.1.2.1
  have h1n := hw.1.1.1
  have hv := fun Q => c_isLiteral (X := X) (d := d + 5) (B := B) (g := g) (Q := Q) hR.1.1.1 hn l
  have ho := fun Q => c_isOut (X := X) (d := d + 5) (g := md_put B σ g) (Q := Q) a b
  unfold sp_prove at hQ
  simp (disch := first | exact ev_ok_i _ | exact ev_ok_r _ | exact ev_ok_n | omega | assumption) only [e_Md_prove_0, e_Md_prove_1, e_Md_prove_2, e_Md_prove_5, ev_rm_n, ev_rm_i, ev_rm_r, ev_rm_l, ev_ok_n, ev_ok_i, ev_ok_r, Option.toList_some, Option.toList_none, List.cons_append, List.nil_append, true_and, and_true, true_or, or_true, reduceIte, Nat.reduceEqDiff, if_true, if_false, md_rc, md_si_1, md_si_2, md_sa_1, md_sa_2, mg_kind, mr_kind, mw_kind, mg_one, mr_one, mw_one, mg_two, mr_two, mw_two, mg_variables, mp_variables, mg_inputs, mp_inputs, mg_inputOf, mr_inputOf, mw_inputOf, mg_nameSign, mr_nameSign, mw_nameSign, mg_nameSize, mr_nameSize, mw_nameSize, mg_label, mr_label, mw_label, mg_isContrary, mp_isContrary, mg_text, mr_text, mw_text, mg_textSize, mp_textSize, mg_at, mp_at, mg_token, mp_token, mg_tokenAt, mp_tokenAt, mg_tokenSize, mp_tokenSize, mg_scanned, mp_scanned, mg_fault, mp_fault, mg_faultAt, mp_faultAt, mg_place, mp_place, mg_open, mp_open, mg_level, mr_level, mw_level, mg_stage, mr_stage, mw_stage, mg_held, mr_held, mw_held, mg_signPlace, mr_signPlace, mw_signPlace, mg_value, mp_value, mg_row, mr_row, mw_row, mg_contrary, mr_contrary, mw_contrary, mg_firstRow, mr_firstRow, mw_firstRow, mg_firstContrary, mr_firstContrary, mw_firstContrary, mg_depthOf, mr_depthOf, mw_depthOf, mg_phase, mr_phase, mw_phase, mg_tried, mr_tried, mw_tried, mg_before, mr_before, mw_before, mg_old, mr_old, mw_old, mg_steps, mp_steps, mg_mostSteps, mp_mostSteps, mg_rounds, mp_rounds, mg_passes, mp_passes, mg_branches, mp_branches, mg_worth, mr_worth, mw_worth, hv]
  cases hl : sp_lit (cN w.1) l with
  | none =>
    rw [hl] at hQ
    simp (disch := first | exact ev_ok_i _ | exact ev_ok_r _ | exact ev_ok_n | omega | assumption) only [e_Md_prove_8, e_Md_prove_9, ev_rm_n, ev_rm_i, ev_rm_r, ev_rm_l, ev_ok_n, ev_ok_i, ev_ok_r, Option.toList_some, Option.toList_none, List.cons_append, List.nil_append, true_and, and_true, true_or, or_true, reduceIte, Nat.reduceEqDiff, if_true, if_false, not_true_eq_false]
    exact hQ σ hR
  | some p =>
    rw [hl] at hQ
    dsimp only at hQ
    obtain ⟨rfl, hp⟩ := sp_lit_s hl
    simp (disch := first | exact ev_ok_i _ | exact ev_ok_r _ | exact ev_ok_n | omega | assumption) only [e_Md_prove_10, e_Md_prove_11, e_Md_prove_12, e_Md_prove_15, ev_rm_n, ev_rm_i, ev_rm_r, ev_rm_l, ev_ok_n, ev_ok_i, ev_ok_r, Option.toList_some, Option.toList_none, List.cons_append, List.nil_append, true_and, and_true, true_or, or_true, reduceIte, Nat.reduceEqDiff, if_true, if_false, i_10, not_false_eq_true, ho]
    by_cases hout : sp_out a b
    · rw [if_pos hout] at hQ
      simp (disch := first | exact ev_ok_i _ | exact ev_ok_r _ | exact ev_ok_n | omega | assumption) only [hout, e_Md_prove_18, e_Md_prove_20, ev_rm_n, ev_rm_i, ev_rm_r, ev_rm_l, ev_ok_n, ev_ok_i, ev_ok_r, Option.toList_some, Option.toList_none, List.cons_append, List.nil_append, true_and, and_true, true_or, or_true, reduceIte, Nat.reduceEqDiff, if_true, if_false, i_10]
      exact hQ σ hR
    · rw [if_neg hout] at hQ
      obtain ⟨x, y, hx, hy, rfl, rfl⟩ := sp_out_n hout
      rw [nI_clamp (by omega), nI_clamp (by omega)] at hQ
      have hbt := fun Q => c_beginTold (X := X) (d := d + 5) (B := B) (g := g) (Q := Q) (σ := σ) (nI y)
      generalize hσ1 : md_si (md_si (md_si (md_si (md_si σ 35 0) 36 (nI y)) 37 0) 38 0) 39 0 = σ1 at hbt
      have hR1 : md_R σ1 (w.1, w.2.1, w.2.2.1, w.2.2.2.1, (0, 0, 0, 0)) := by
        subst hσ1
        exact ⟨⟨⟨hR.1.1.1, hR.1.1.2.1, hR.1.1.2.2.1, fun v hv => hR.1.1.2.2.2 v hv⟩, hR.1.2.1, fun i hi => hR.1.2.2 i hi⟩, hR.2.1, hR.2.2.1, hR.2.2.2.1, rfl, rfl, rfl, rfl⟩
      have h36 : σ1.1 36 = nI y := by subst hσ1; rfl
      have e0 : (0 : Int32) = nI 0 := rfl
      have hrow := c_prove_row (X := X) (d := d + 6) (B := B) (g := g) (Q := Q) (σ := σ1) (n := cN w.1) (l1 := some (.int (nI p))) (l2 := some (.int (nI x))) (l3 := some (.int (nI y))) hR1.1.1.1 hn rfl (2 * cN w.1) 0 (by omega)
      rw [md_fi_0] at hrow
      simp (disch := first | exact ev_ok_i _ | exact ev_ok_r _ | exact ev_ok_n | omega | assumption) only [e_Md_prove_21, e_Md_prove_22, e_Md_prove_23, e_Md_prove_26, e_Md_prove_27, ev_rm_n, ev_rm_i, ev_rm_r, ev_rm_l, ev_ok_n, ev_ok_i, ev_ok_r, Option.toList_some, Option.toList_none, List.cons_append, List.nil_append, true_and, and_true, true_or, or_true, reduceIte, Nat.reduceEqDiff, if_true, if_false, md_rc, md_si_1, md_si_2, md_sa_1, md_sa_2, mg_kind, mr_kind, mw_kind, mg_one, mr_one, mw_one, mg_two, mr_two, mw_two, mg_variables, mp_variables, mg_inputs, mp_inputs, mg_inputOf, mr_inputOf, mw_inputOf, mg_nameSign, mr_nameSign, mw_nameSign, mg_nameSize, mr_nameSize, mw_nameSize, mg_label, mr_label, mw_label, mg_isContrary, mp_isContrary, mg_text, mr_text, mw_text, mg_textSize, mp_textSize, mg_at, mp_at, mg_token, mp_token, mg_tokenAt, mp_tokenAt, mg_tokenSize, mp_tokenSize, mg_scanned, mp_scanned, mg_fault, mp_fault, mg_faultAt, mp_faultAt, mg_place, mp_place, mg_open, mp_open, mg_level, mr_level, mw_level, mg_stage, mr_stage, mw_stage, mg_held, mr_held, mw_held, mg_signPlace, mr_signPlace, mw_signPlace, mg_value, mp_value, mg_row, mr_row, mw_row, mg_contrary, mr_contrary, mw_contrary, mg_firstRow, mr_firstRow, mw_firstRow, mg_firstContrary, mr_firstContrary, mw_firstContrary, mg_depthOf, mr_depthOf, mw_depthOf, mg_phase, mr_phase, mw_phase, mg_tried, mr_tried, mw_tried, mg_before, mr_before, mw_before, mg_old, mr_old, mw_old, mg_steps, mp_steps, mg_mostSteps, mp_mostSteps, mg_rounds, mp_rounds, mg_passes, mp_passes, mg_branches, mp_branches, mg_worth, mr_worth, mw_worth, hbt, hout]
      rw [e0, hrow]
      have hid : sp_bd (cN w.1) sp_id := fun l hl => hl
      have hj := fun Q => c_join2 (X := X) (d := d + 4) (B := B) (g := g) (Q := Q) (σ := σ1) (n := cN w.1) (f := 0) (a := p) (b := 1) (E := sp_id) hR1.1.1.1 hn (by decide) hid hp (by omega)
      have hj0 : ∀ Q, ev_C X (d + 5) m_Md_join2 [.ref B, .int 0, .int (nI p), .int 1] (md_put B (md_wr σ1 (cN w.1) 0 sp_id) g) Q ↔ _ := fun Q => hj Q
      simp (disch := first | exact ev_ok_i _ | exact ev_ok_r _ | exact ev_ok_n | omega | assumption) only [e_Md_prove_62, e_Md_prove_63, e_Md_prove_64, e_Md_prove_65, e_Md_prove_66, e_Md_prove_69, e_Md_prove_70, ev_rm_n, ev_rm_i, ev_rm_r, ev_rm_l, ev_ok_n, ev_ok_i, ev_ok_r, Option.toList_some, Option.toList_none, List.cons_append, List.nil_append, true_and, and_true, true_or, or_true, reduceIte, Nat.reduceEqDiff, if_true, if_false, md_rc, md_si_1, md_si_2, md_sa_1, md_sa_2, mg_kind, mr_kind, mw_kind, mg_one, mr_one, mw_one, mg_two, mr_two, mw_two, mg_variables, mp_variables, mg_inputs, mp_inputs, mg_inputOf, mr_inputOf, mw_inputOf, mg_nameSign, mr_nameSign, mw_nameSign, mg_nameSize, mr_nameSize, mw_nameSize, mg_label, mr_label, mw_label, mg_isContrary, mp_isContrary, mg_text, mr_text, mw_text, mg_textSize, mp_textSize, mg_at, mp_at, mg_token, mp_token, mg_tokenAt, mp_tokenAt, mg_tokenSize, mp_tokenSize, mg_scanned, mp_scanned, mg_fault, mp_fault, mg_faultAt, mp_faultAt, mg_place, mp_place, mg_open, mp_open, mg_level, mr_level, mw_level, mg_stage, mr_stage, mw_stage, mg_held, mr_held, mw_held, mg_signPlace, mr_signPlace, mw_signPlace, mg_value, mp_value, mg_row, mr_row, mw_row, mg_contrary, mr_contrary, mw_contrary, mg_firstRow, mr_firstRow, mw_firstRow, mg_firstContrary, mr_firstContrary, mw_firstContrary, mg_depthOf, mr_depthOf, mw_depthOf, mg_phase, mr_phase, mw_phase, mg_tried, mr_tried, mw_tried, mg_before, mr_before, mw_before, mg_old, mr_old, mw_old, mg_steps, mp_steps, mg_mostSteps, mp_mostSteps, mg_rounds, mp_rounds, mg_passes, mp_passes, mg_branches, mp_branches, mg_worth, mr_worth, mw_worth, hj0]
      have F := md_wr_fr0 σ1 (cN w.1) (sp_j sp_id p 1)
      rw [e0]
      refine c_prove_loop (n := cN w.1) (kd := cK w.1) (o1 := cA w.1) (o2 := cB w.1) (ms := y) (x := x) (σ := σ1) hR1.1.1 (sp_cok_wf hw.1) h36 (by omega) hx rfl (x + 1) 0 (sp_j sp_id p 1) (0, 0, 0, 0) _ (by omega) F ⟨sp_j_bd hid hp (by omega), Nat.zero_le y, (sp_j_va (sp_id_va _) hp (by omega)).1⟩ ⟨fun l hl => md_wr_row _ _ hl, md_wr_c _ _ _ _⟩ hR1.2.2.2.2 (fun σ2 f1 f2 => hQ σ2 (md_R_fr (w := (w.1, w.2.1, w.2.2.1, w.2.2.2.1, (0, 0, 0, 0))) f1 hR1 f2))
end M16
