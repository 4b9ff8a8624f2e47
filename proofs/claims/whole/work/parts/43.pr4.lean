/-! READING: the reference's machine of frames: implications, operands; all levels -/
section P4
variable {X : xo_X} {d B : Nat} {g : xo_G} {x : sp_X} {E : sp_E} {n0 : Nat}
theorem md_S1_s {f : Nat} (ihP : md_PK X d B g x E n0 f) : md_S1 X d B g x E n0 (f + 1) := by
  intro dd v h w s σ Q K hok h0 hv hf hdd hP h21 hK hF hO
  have hfl := sp_fl_0 h0
  have h17 : σ.1 17 = 0 := by rw [hP.2.1, h0]; rfl
  unfold sp_pr at hF hO
  simp (disch := first | exact ev_ok_i _ | exact ev_ok_r _ | exact ev_ok_n | omega | assumption) only [e_Md_goOn_206, e_Md_goOn_208, e_Md_goOn_239, e_Md_goOn_240, e_Md_goOn_241, e_Md_goOn_244, e_Md_goOn_245, ev_rm_n, ev_rm_i, ev_rm_r, ev_rm_l, ev_ok_n, ev_ok_i, ev_ok_r, Option.toList_some, Option.toList_none, List.cons_append, List.nil_append, true_and, and_true, true_or, or_true, reduceIte, Nat.reduceEqDiff, if_true, if_false, md_rc, md_si_1, md_si_2, md_sa_1, md_sa_2, mg_kind, mr_kind, mw_kind, mg_one, mr_one, mw_one, mg_two, mr_two, mw_two, mg_variables, mp_variables, mg_inputs, mp_inputs, mg_inputOf, mr_inputOf, mw_inputOf, mg_nameSign, mr_nameSign, mw_nameSign, mg_nameSize, mr_nameSize, mw_nameSize, mg_label, mr_label, mw_label, mg_isContrary, mp_isContrary, mg_text, mr_text, mw_text, mg_textSize, mp_textSize, mg_at, mp_at, mg_token, mp_token, mg_tokenAt, mp_tokenAt, mg_tokenSize, mp_tokenSize, mg_scanned, mp_scanned, mg_fault, mp_fault, mg_faultAt, mp_faultAt, mg_place, mp_place, mg_open, mp_open, mg_level, mr_level, mw_level, mg_stage, mr_stage, mw_stage, mg_held, mr_held, mw_held, mg_signPlace, mr_signPlace, mw_signPlace, mg_value, mp_value, mg_row, mr_row, mw_row, mg_contrary, mr_contrary, mw_contrary, mg_firstRow, mr_firstRow, mw_firstRow, mg_firstContrary, mr_firstContrary, mw_firstContrary, mg_depthOf, mr_depthOf, mw_depthOf, mg_phase, mr_phase, mw_phase, mg_tried, mr_tried, mw_tried, mg_before, mr_before, mw_before, mg_old, mr_old, mw_old, mg_steps, mp_steps, mg_mostSteps, mp_mostSteps, mg_rounds, mp_rounds, mg_passes, mp_passes, mg_branches, mp_branches, mg_worth, mr_worth, mw_worth]
  refine c_look (d := d + 2) (md_P_si hP) hok h0 (fun σ2 p1 p2 p3 => ?_)
  simp (disch := first | exact ev_ok_i _ | exact ev_ok_r _ | exact ev_ok_n | omega | assumption) only [e_Md_goOn_248, e_Md_goOn_251, ev_rm_n, ev_rm_i, ev_rm_r, ev_rm_l, ev_ok_n, ev_ok_i, ev_ok_r, Option.toList_some, Option.toList_none, List.cons_append, List.nil_append, true_and, and_true, true_or, or_true, reduceIte, Nat.reduceEqDiff, if_true, if_false]
  have hpf2 : md_pf σ σ2 dd := md_pf_tr (md_pf_si25 σ (nI v) dd) (md_ph_pf p3 dd) (Nat.le_refl dd)
  have k25 : σ2.1 25 = nI v := by rw [p3.1 25 (by decide) (by decide) (by decide) (by decide)]; rfl
  by_cases hl : pF (sp_look x s) = 0
  · obtain ⟨el, -⟩ := sp_look_0 hl
    rw [el] at p1
    rw [if_neg (fun z => z hl), if_pos rfl] at hF hO
    by_cases ht : tK x s = 260
    · rw [if_pos ht] at hF hO
      rw [if_neg (fun z => z ht)]
      simp (disch := first | exact ev_ok_i _ | exact ev_ok_r _ | exact ev_ok_n | omega | assumption) only [e_Md_goOn_254, e_Md_goOn_255, ev_rm_n, ev_rm_i, ev_rm_r, ev_rm_l, ev_ok_n, ev_ok_i, ev_ok_r, Option.toList_some, Option.toList_none, List.cons_append, List.nil_append, true_and, and_true, true_or, or_true, reduceIte, Nat.reduceEqDiff, if_true, if_false, md_rc, md_si_1, md_si_2, md_sa_1, md_sa_2, mg_kind, mr_kind, mw_kind, mg_one, mr_one, mw_one, mg_two, mr_two, mw_two, mg_variables, mp_variables, mg_inputs, mp_inputs, mg_inputOf, mr_inputOf, mw_inputOf, mg_nameSign, mr_nameSign, mw_nameSign, mg_nameSize, mr_nameSize, mw_nameSize, mg_label, mr_label, mw_label, mg_isContrary, mp_isContrary, mg_text, mr_text, mw_text, mg_textSize, mp_textSize, mg_at, mp_at, mg_token, mp_token, mg_tokenAt, mp_tokenAt, mg_tokenSize, mp_tokenSize, mg_scanned, mp_scanned, mg_fault, mp_fault, mg_faultAt, mp_faultAt, mg_place, mp_place, mg_open, mp_open, mg_level, mr_level, mw_level, mg_stage, mr_stage, mw_stage, mg_held, mr_held, mw_held, mg_signPlace, mr_signPlace, mw_signPlace, mg_value, mp_value, mg_row, mr_row, mw_row, mg_contrary, mr_contrary, mw_contrary, mg_firstRow, mr_firstRow, mw_firstRow, mg_firstContrary, mr_firstContrary, mw_firstContrary, mg_depthOf, mr_depthOf, mw_depthOf, mg_phase, mr_phase, mw_phase, mg_tried, mr_tried, mw_tried, mg_before, mr_before, mw_before, mg_old, mr_old, mw_old, mg_steps, mp_steps, mg_mostSteps, mp_mostSteps, mg_rounds, mp_rounds, mg_passes, mp_passes, mg_branches, mp_branches, mg_worth, mr_worth, mw_worth]
      have hm := sp_tok_lt hok (by rw [ht]; decide)
      have htl : tS x s + tZ x s ≤ x.2 := (sp_tw_sz (sp_ts_le hok.2.2.1).2).1
      refine c_nest (d := d + 3) p1 p2 hok h0 (fun ho σ3 q1 q2 => ?_) (fun ho q1 q2 => ?_)
      · rw [if_pos ho] at hF
        simp (disch := first | exact ev_ok_i _ | exact ev_ok_r _ | exact ev_ok_n | omega | assumption) only [e_Md_goOn_258, e_Md_goOn_261, e_Md_goOn_262, ev_rm_n, ev_rm_i, ev_rm_r, ev_rm_l, ev_ok_n, ev_ok_i, ev_ok_r, Option.toList_some, Option.toList_none, List.cons_append, List.nil_append, true_and, and_true, true_or, or_true, reduceIte, Nat.reduceEqDiff, if_true, if_false, not_true_eq_false]
        rw [hK]
        exact (c_rF (md_F17 q1 (sp_fail_f (by decide)) (sp_fail_fl hfl (by decide))) (by omega)).mpr (hF (sp_fail_f (by decide)) σ3 q1 (md_pf_tr hpf2 (md_ph_pf q2 dd) (Nat.le_refl dd)))
      · rw [if_neg ho] at hF hO
        have e1 : (1 : Int32) = nI 1 := rfl
        simp (disch := first | exact ev_ok_i _ | exact ev_ok_r _ | exact ev_ok_n | omega | assumption) only [e_Md_goOn_258, e_Md_goOn_263, e_Md_goOn_264, e_Md_goOn_265, e_Md_goOn_266, e_Md_goOn_267, ev_rm_n, ev_rm_i, ev_rm_r, ev_rm_l, ev_ok_n, ev_ok_i, ev_ok_r, Option.toList_some, Option.toList_none, List.cons_append, List.nil_append, true_and, and_true, true_or, or_true, reduceIte, Nat.reduceEqDiff, if_true, if_false, md_rc, md_si_1, md_si_2, md_sa_1, md_sa_2, mg_kind, mr_kind, mw_kind, mg_one, mr_one, mw_one, mg_two, mr_two, mw_two, mg_variables, mp_variables, mg_inputs, mp_inputs, mg_inputOf, mr_inputOf, mw_inputOf, mg_nameSign, mr_nameSign, mw_nameSign, mg_nameSize, mr_nameSize, mw_nameSize, mg_label, mr_label, mw_label, mg_isContrary, mp_isContrary, mg_text, mr_text, mw_text, mg_textSize, mp_textSize, mg_at, mp_at, mg_token, mp_token, mg_tokenAt, mp_tokenAt, mg_tokenSize, mp_tokenSize, mg_scanned, mp_scanned, mg_fault, mp_fault, mg_faultAt, mp_faultAt, mg_place, mp_place, mg_open, mp_open, mg_level, mr_level, mw_level, mg_stage, mr_stage, mw_stage, mg_held, mr_held, mw_held, mg_signPlace, mr_signPlace, mw_signPlace, mg_value, mp_value, mg_row, mr_row, mw_row, mg_contrary, mr_contrary, mw_contrary, mg_firstRow, mr_firstRow, mw_firstRow, mg_firstContrary, mr_firstContrary, mw_firstContrary, mg_depthOf, mr_depthOf, mw_depthOf, mg_phase, mr_phase, mw_phase, mg_tried, mr_tried, mw_tried, mg_before, mr_before, mw_before, mg_old, mr_old, mw_old, mg_steps, mp_steps, mg_mostSteps, mp_mostSteps, mg_rounds, mp_rounds, mg_passes, mp_passes, mg_branches, mp_branches, mg_worth, mr_worth, mw_worth, i_10, not_false_eq_true]
        rw [e1]
        refine c_hold (d := d + 3) (nx := 1) q1 q2 h0 (by omega) (fun σ3 a1 a2 => ?_)
        simp (disch := first | exact ev_ok_i _ | exact ev_ok_r _ | exact ev_ok_n | omega | assumption) only [e_Md_goOn_270, ev_rm_n, ev_rm_i, ev_rm_r, ev_rm_l, ev_ok_n, ev_ok_i, ev_ok_r, Option.toList_some, Option.toList_none, List.cons_append, List.nil_append, true_and, and_true, true_or, or_true, reduceIte, Nat.reduceEqDiff, if_true, if_false]
        rw [hK]
        have z17 : σ3.1 17 = 0 := by rw [a1.2.1]; show nI (pF s) = 0; rw [h0]; rfl
        have hpf3 : md_pf σ σ3 dd := by
          refine md_pf_tr (md_pf_tr hpf2 (md_pf_si20 σ2 (nI (pO s + 1)) dd) (Nat.le_refl dd)) ?_ (Nat.le_refl dd)
          refine md_pf_tr ?_ (md_ph_pf a2 dd) (Nat.le_refl dd)
          exact md_pf_tr (md_pf_tr (md_pf_sa _ _ (by decide) (by decide) (Nat.le_refl dd)) (md_pf_sa _ _ (by decide) (by decide) (Nat.le_refl dd)) (Nat.le_refl dd)) (md_pf_sa _ _ (by decide) (by decide) (Nat.le_refl dd)) (Nat.le_refl dd)
        have k21 : σ3.2 21 dd = nI 1 := by
          rw [a2.2 21 (by decide)]
          simp only [md_sa_2, Nat.reduceEqDiff, if_false]
          rw [md_si_2, p3.2 21 (by decide)]
          exact h21
        have k22 : σ3.2 22 dd = 1 := by rw [a2.2 22 (by decide), md_sa_2, if_pos rfl, pk_us]
        have k23 : σ3.2 23 dd = nI v := by
          rw [a2.2 23 (by decide)]
          simp only [md_sa_2, Nat.reduceEqDiff, if_false, if_true]
          rw [pk_us]
        have k24 : σ3.2 24 dd = nI (tS x s) := by
          rw [a2.2 24 (by decide)]
          simp only [md_sa_2, Nat.reduceEqDiff, if_false, if_true]
          rw [pk_us]
        have hok2 := sp_opn_ok hok ho
        have hP3 : md_P σ3 x E n0 (sp_opn x s) := a1
        show md_r70 X d B g Q dd (nI 1) σ3
        rw [c_rN z17 (by omega) (by decide)]
        have hpfc : md_pf σ3 (md_sa (md_sa σ3 21 (dd + 1) (nI 1)) 22 (dd + 1) 0) (dd + 1) := md_pf_tr (md_pf_sa σ3 _ (by decide) (by decide) (Nat.le_refl _)) (md_pf_sa _ _ (by decide) (by decide) (Nat.le_refl _)) (Nat.le_refl _)
        have h40 := hok.2.2.2.1
        have hfu : 8 * (x.2 - (sp_opn x s).1) + 7 - 1 ≤ f := by show 8 * (x.2 - (tS x s + tZ x s)) + 7 - 1 ≤ f; omega
        have hr := sp_pr_ok x n0 f 1 none (sp_opn x s) hok2 h0 (by decide) (fun _ => hfu) (fun v hv => by cases hv)
        have hrf : sp_fl (sp_pr x f 1 none (sp_opn x s)).2 := sp_pr_fl f 1 none (sp_opn x s) hfl
        refine ihP 1 (dd + 1) (sp_opn x s) _ _ Q hok2 h0 (by decide) hfu (by show dd + 1 + (5 - 1) + 6 * (40 - (pO s + 1)) ≤ 245; omega) (md_P_sa (md_P_sa hP3 (by decide)) (by decide)) (by simp only [md_sa_2, Nat.reduceEqDiff, if_false, if_true]; rw [pk_us]) (by rw [md_sa_2, if_pos rfl, pk_us]) (fun hz σ4 b1 b2 => ?_) (fun hz σ4 b1 b2 b3 => ?_)
        · rw [if_pos hz] at hF
          exact hF hz σ4 b1 (md_pf_tr hpf3 (md_pf_tr hpfc b2 (Nat.le_refl _)) (by omega))
        · rw [if_neg (fun z => z hz)] at hF hO
          obtain ⟨r1, r2, r3⟩ := hr
          obtain ⟨w1, w2, w3, w4⟩ := r3 hz
          generalize sp_pr x f 1 none (sp_opn x s) = r at *
          have hpf4 := md_pf_tr hpfc b2 (Nat.le_refl _)
          have j21 : σ4.2 21 dd = nI 1 := by rw [hpf4.2.2 21 dd (by decide) (by decide) (Nat.lt_succ_self dd)]; exact k21
          have j22 : σ4.2 22 dd = 1 := by rw [hpf4.2.2 22 dd (by decide) (by decide) (Nat.lt_succ_self dd)]; exact k22
          have j23 : σ4.2 23 dd = nI v := by rw [hpf4.2.2 23 dd (by decide) (by decide) (Nat.lt_succ_self dd)]; exact k23
          have j24 : σ4.2 24 dd = nI (tS x s) := by rw [hpf4.2.2 24 dd (by decide) (by decide) (Nat.lt_succ_self dd)]; exact k24
          have y17 : σ4.1 17 = 0 := by rw [b1.2.1, hz]; rfl
          have w2' : pO r.2 = pO s + 1 := w2
          have y20 : σ4.1 20 = nI (pO r.2) := (b1.2.2.2 hz).1
          have em : nI (pO r.2) - 1 = nI (pO r.2 - 1) := by rw [w2']; exact nI_pred _
          rw [c_rPop y17 (by omega), c_goOn (by omega) (by decide) b3 j21 j22 j23 j24]
          have hzi : zi ((1 : Int32) = 1) = 1 := rfl
          have hpc : md_gp 1 = 206 := rfl
          rw [hzi, hpc]
          simp (disch := first | exact ev_ok_i _ | exact ev_ok_r _ | exact ev_ok_n | omega | assumption) only [e_Md_goOn_206, e_Md_goOn_208, e_Md_goOn_211, e_Md_goOn_212, e_Md_goOn_213, e_Md_goOn_216, e_Md_goOn_217, e_Md_goOn_218, e_Md_goOn_221, e_Md_goOn_222, e_Md_goOn_223, e_Md_goOn_224, e_Md_goOn_225, e_Md_goOn_226, e_Md_goOn_227, e_Md_goOn_228, e_Md_goOn_230, e_Md_goOn_231, ev_rm_n, ev_rm_i, ev_rm_r, ev_rm_l, ev_ok_n, ev_ok_i, ev_ok_r, Option.toList_some, Option.toList_none, List.cons_append, List.nil_append, true_and, and_true, true_or, or_true, reduceIte, Nat.reduceEqDiff, if_true, if_false, md_rc, md_si_1, md_si_2, md_sa_1, md_sa_2, mg_kind, mr_kind, mw_kind, mg_one, mr_one, mw_one, mg_two, mr_two, mw_two, mg_variables, mp_variables, mg_inputs, mp_inputs, mg_inputOf, mr_inputOf, mw_inputOf, mg_nameSign, mr_nameSign, mw_nameSign, mg_nameSize, mr_nameSize, mw_nameSize, mg_label, mr_label, mw_label, mg_isContrary, mp_isContrary, mg_text, mr_text, mw_text, mg_textSize, mp_textSize, mg_at, mp_at, mg_token, mp_token, mg_tokenAt, mp_tokenAt, mg_tokenSize, mp_tokenSize, mg_scanned, mp_scanned, mg_fault, mp_fault, mg_faultAt, mp_faultAt, mg_place, mp_place, mg_open, mp_open, mg_level, mr_level, mw_level, mg_stage, mr_stage, mw_stage, mg_held, mr_held, mw_held, mg_signPlace, mr_signPlace, mw_signPlace, mg_value, mp_value, mg_row, mr_row, mw_row, mg_contrary, mr_contrary, mw_contrary, mg_firstRow, mr_firstRow, mw_firstRow, mg_firstContrary, mr_firstContrary, mw_firstContrary, mg_depthOf, mr_depthOf, mw_depthOf, mg_phase, mr_phase, mw_phase, mg_tried, mr_tried, mw_tried, mg_before, mr_before, mw_before, mg_old, mr_old, mw_old, mg_steps, mp_steps, mg_mostSteps, mp_mostSteps, mg_rounds, mp_rounds, mg_passes, mp_passes, mg_branches, mp_branches, mg_worth, mr_worth, mw_worth, i_10, y20, em, nL_x1]
          have e2 : (2 : Int32) = nI 2 := rfl
          rw [e2, e1]
          have r2' : cN (pC s) ≤ cN (pC r.2) := r2
          have hPc := md_P_cls (u := 0) b1 hz (by omega)
          have hcm := sp_cmb_ok (lv := 1) (v := v) (w := r.1) (a := tS x s) (sp_cls1_ok r1) hz (by show v < 2 * cN (pC r.2); omega) w1
          have hcmf : sp_fl (sp_cmb 1 v r.1 (tS x s) (sp_cls1 r.2)).2 := sp_cmb_fl (s := sp_cls1 r.2) hrf _ _ _ _
          have ecm : sp_cmb 1 v r.1 (tS x s) (sp_cls1 r.2) = sp_cb 2 v (r.1 ^^^ 1) 1 (tS x s) (sp_cls1 r.2) := rfl
          rw [ecm] at hF hO hcm hcmf
          refine c_gateAt (d := d + 2) (k := 2) (t := 1) hPc (sp_cls1_ok r1) hz (by decide) (by show v < 2 * cN (pC r.2); omega) (xor1_lt w1) (fun σ5 u t1 t2 t3 => ?_)
          simp (disch := first | exact ev_ok_i _ | exact ev_ok_r _ | exact ev_ok_n | omega | assumption) only [e_Md_goOn_234, e_Md_goOn_237, e_Md_goOn_238, ev_rm_n, ev_rm_i, ev_rm_r, ev_rm_l, ev_ok_n, ev_ok_i, ev_ok_r, Option.toList_some, Option.toList_none, List.cons_append, List.nil_append, true_and, and_true, true_or, or_true, reduceIte, Nat.reduceEqDiff, if_true, if_false, md_rc, md_si_1, md_si_2, md_sa_1, md_sa_2, mg_kind, mr_kind, mw_kind, mg_one, mr_one, mw_one, mg_two, mr_two, mw_two, mg_variables, mp_variables, mg_inputs, mp_inputs, mg_inputOf, mr_inputOf, mw_inputOf, mg_nameSign, mr_nameSign, mw_nameSign, mg_nameSize, mr_nameSize, mw_nameSize, mg_label, mr_label, mw_label, mg_isContrary, mp_isContrary, mg_text, mr_text, mw_text, mg_textSize, mp_textSize, mg_at, mp_at, mg_token, mp_token, mg_tokenAt, mp_tokenAt, mg_tokenSize, mp_tokenSize, mg_scanned, mp_scanned, mg_fault, mp_fault, mg_faultAt, mp_faultAt, mg_place, mp_place, mg_open, mp_open, mg_level, mr_level, mw_level, mg_stage, mr_stage, mw_stage, mg_held, mr_held, mw_held, mg_signPlace, mr_signPlace, mw_signPlace, mg_value, mp_value, mg_row, mr_row, mw_row, mg_contrary, mr_contrary, mw_contrary, mg_firstRow, mr_firstRow, mw_firstRow, mg_firstContrary, mr_firstContrary, mw_firstContrary, mg_depthOf, mr_depthOf, mw_depthOf, mg_phase, mr_phase, mw_phase, mg_tried, mr_tried, mw_tried, mg_before, mr_before, mw_before, mg_old, mr_old, mw_old, mg_steps, mp_steps, mg_mostSteps, mp_mostSteps, mg_rounds, mp_rounds, mg_passes, mp_passes, mg_branches, mp_branches, mg_worth, mr_worth, mw_worth]
          rw [c_r93]
          have hpf5 : md_pf σ (md_si σ5 25 u) dd := md_pf_tr (md_pf_tr hpf3 (md_pf_tr hpf4 (md_pf_tr (md_pf_si20 σ4 _ (dd + 1)) (md_ph_pf t3 (dd + 1)) (Nat.le_refl _)) (Nat.le_refl _)) (by omega)) (md_pf_si25 σ5 u dd) (Nat.le_refl dd)
          by_cases hcz : pF (sp_cb 2 v (r.1 ^^^ 1) 1 (tS x s) (sp_cls1 r.2)).2 = 0
          · exact hO hcz _ (md_P_si t1) hpf5 (t2 hcz)
          · have x17 : ¬ (md_si σ5 25 u).1 17 = 0 := md_F17 t1 hcz hcmf
            exact (c_rF x17 (by omega)).mpr (hF hcz _ (md_P_si t1) hpf5)
    · rw [if_neg ht] at hO
      rw [if_pos ht]
      simp (disch := first | exact ev_ok_i _ | exact ev_ok_r _ | exact ev_ok_n | omega | assumption) only [e_Md_goOn_261, e_Md_goOn_262, ev_rm_n, ev_rm_i, ev_rm_r, ev_rm_l, ev_ok_n, ev_ok_i, ev_ok_r, Option.toList_some, Option.toList_none, List.cons_append, List.nil_append, true_and, and_true, true_or, or_true, reduceIte, Nat.reduceEqDiff, if_true, if_false]
      rw [hK]
      exact hO h0 σ2 p1 hpf2 k25
  · have hne : ¬ tK x s = 260 := fun z => by
      apply hl
      unfold sp_look
      rw [if_neg (by rw [z]; decide)]
      exact h0
    rw [if_pos hl] at hF
    rw [if_pos hne]
    simp (disch := first | exact ev_ok_i _ | exact ev_ok_r _ | exact ev_ok_n | omega | assumption) only [e_Md_goOn_261, e_Md_goOn_262, ev_rm_n, ev_rm_i, ev_rm_r, ev_rm_l, ev_ok_n, ev_ok_i, ev_ok_r, Option.toList_some, Option.toList_none, List.cons_append, List.nil_append, true_and, and_true, true_or, or_true, reduceIte, Nat.reduceEqDiff, if_true, if_false]
    rw [hK]
    exact (c_rF (md_F17 p1 hl (sp_look_fl hfl)) (by omega)).mpr (hF hl σ2 p1 hpf2)
/-- levels below the operand -/
theorem md_PK_lv {f lv dd : Nat} {s : sp_P} {σ : md_S} {l2 : Option Value} {Q : Option Value → xo_G → Prop} (ihP : md_PK X d B g x E n0 f) (ihS : md_SS X d B g x E n0 f) (ihS1 : md_S1 X d B g x E n0 f) (hok : sp_pok x n0 s) (h0 : pF s = 0) (hlv : lv < 5) (hf : 8 * (x.2 - s.1) + 7 - lv ≤ f + 1) (hdd : dd + (5 - lv) + 6 * (40 - pO s) ≤ 245) (hP : md_P σ x E n0 s) (h21 : σ.2 21 dd = nI lv) (h22 : σ.2 22 dd = 0)
    (hF : ¬ pF (sp_pr x (f + 1) lv none s).2 = 0 → ∀ σ2, md_P σ2 x E n0 (sp_pr x (f + 1) lv none s).2 → md_pf σ σ2 dd → Q (some (.int (-1))) (md_put B σ2 g))
    (hO : pF (sp_pr x (f + 1) lv none s).2 = 0 → ∀ σ2, md_P σ2 x E n0 (sp_pr x (f + 1) lv none s).2 → md_pf σ σ2 dd → σ2.1 25 = nI (sp_pr x (f + 1) lv none s).1 → md_r70 X d B g Q dd (-1) σ2) : md_rA X d B g Q dd l2 σ := by
  unfold sp_pr at hF hO
  rw [if_neg (by omega)] at hF hO
  have e5 : (5 : Int32) = nI 5 := rfl
  have hnl : ¬ (5 : Int32) ≤ nI lv := by
    rw [e5]
    exact fun z => by have := (nI_leI (by decide) (by omega)).mp z; omega
  have step : md_rA X d B g Q dd l2 σ ↔ md_rA X d B g Q (dd + 1) l2 (md_sa (md_sa σ 21 (dd + 1) (nI (lv + 1))) 22 (dd + 1) 0) := by
    unfold md_rA
    conv => lhs; simp (disch := first | exact ev_ok_i _ | exact ev_ok_r _ | exact ev_ok_n | omega | assumption) only [e_Md_readFormula_23, e_Md_readFormula_24, e_Md_readFormula_27, e_Md_readFormula_28, e_Md_readFormula_29, e_Md_readFormula_30, e_Md_readFormula_33, e_Md_readFormula_34, e_Md_readFormula_37, e_Md_readFormula_38, e_Md_readFormula_39, e_Md_readFormula_40, e_Md_readFormula_41, e_Md_readFormula_44, e_Md_readFormula_45, e_Md_readFormula_46, e_Md_readFormula_47, e_Md_readFormula_48, e_Md_readFormula_49, e_Md_readFormula_50, e_Md_readFormula_53, e_Md_readFormula_54, e_Md_readFormula_55, e_Md_readFormula_56, e_Md_readFormula_57, e_Md_readFormula_58, ev_rm_n, ev_rm_i, ev_rm_r, ev_rm_l, ev_ok_n, ev_ok_i, ev_ok_r, Option.toList_some, Option.toList_none, List.cons_append, List.nil_append, true_and, and_true, true_or, or_true, reduceIte, Nat.reduceEqDiff, if_true, if_false, md_rc, md_si_1, md_si_2, md_sa_1, md_sa_2, mg_kind, mr_kind, mw_kind, mg_one, mr_one, mw_one, mg_two, mr_two, mw_two, mg_variables, mp_variables, mg_inputs, mp_inputs, mg_inputOf, mr_inputOf, mw_inputOf, mg_nameSign, mr_nameSign, mw_nameSign, mg_nameSize, mr_nameSize, mw_nameSize, mg_label, mr_label, mw_label, mg_isContrary, mp_isContrary, mg_text, mr_text, mw_text, mg_textSize, mp_textSize, mg_at, mp_at, mg_token, mp_token, mg_tokenAt, mp_tokenAt, mg_tokenSize, mp_tokenSize, mg_scanned, mp_scanned, mg_fault, mp_fault, mg_faultAt, mp_faultAt, mg_place, mp_place, mg_open, mp_open, mg_level, mr_level, mw_level, mg_stage, mr_stage, mw_stage, mg_held, mr_held, mw_held, mg_signPlace, mr_signPlace, mw_signPlace, mg_value, mp_value, mg_row, mr_row, mw_row, mg_contrary, mr_contrary, mw_contrary, mg_firstRow, mr_firstRow, mw_firstRow, mg_firstContrary, mr_firstContrary, mw_firstContrary, mg_depthOf, mr_depthOf, mw_depthOf, mg_phase, mr_phase, mw_phase, mg_tried, mr_tried, mw_tried, mg_before, mr_before, mw_before, mg_old, mr_old, mw_old, mg_steps, mp_steps, mg_mostSteps, mp_mostSteps, mg_rounds, mp_rounds, mg_passes, mp_passes, mg_branches, mp_branches, mg_worth, mr_worth, mw_worth, xo_in, nI_clamp, h21, hnl, nI_1]
    rw [e_Md_readFormula_61]
  rw [step]
  have hpfc : md_pf σ (md_sa (md_sa σ 21 (dd + 1) (nI (lv + 1))) 22 (dd + 1) 0) (dd + 1) := md_pf_tr (md_pf_sa σ _ (by decide) (by decide) (Nat.le_refl _)) (md_pf_sa _ _ (by decide) (by decide) (Nat.le_refl _)) (Nat.le_refl _)
  have hr := sp_pr_ok x n0 f (lv + 1) none s hok h0 (by omega) (fun _ => by omega) (fun v hv => by cases hv)
  refine ihP (lv + 1) (dd + 1) s _ _ Q hok h0 (by omega) (by omega) (by omega) (md_P_sa (md_P_sa hP (by decide)) (by decide)) (by simp only [md_sa_2, Nat.reduceEqDiff, if_false, if_true]; rw [pk_us]) (by rw [md_sa_2, if_pos rfl, pk_us]) (fun hz σ4 b1 b2 => ?_) (fun hz σ4 b1 b2 b3 => ?_)
  · rw [if_pos hz] at hF
    exact hF hz σ4 b1 (md_pf_tr (md_pf_tr hpfc b2 (Nat.le_refl _)) (md_pf_rf σ4 _) (Nat.le_refl _) |> fun h => ⟨h.1, h.2.1, fun q j a b c => h.2.2 q j a b (by omega)⟩)
  · rw [if_neg (fun z => z hz)] at hF hO
    obtain ⟨r1, r2, r3⟩ := hr
    obtain ⟨w1, w2, w3, w4⟩ := r3 hz
    have w5 := w4 rfl
    generalize sp_pr x f (lv + 1) none s = r at *
    have hpf4 := md_pf_tr hpfc b2 (Nat.le_refl _)
    have j21 : σ4.2 21 dd = nI lv := by rw [hpf4.2.2 21 dd (by decide) (by decide) (Nat.lt_succ_self dd)]; exact h21
    have j22 : σ4.2 22 dd = 0 := by rw [hpf4.2.2 22 dd (by decide) (by decide) (Nat.lt_succ_self dd)]; exact h22
    have y17 : σ4.1 17 = 0 := by rw [b1.2.1, hz]; rfl
    have hpf5 : md_pf σ σ4 dd := ⟨hpf4.1, hpf4.2.1, fun q j a b c => hpf4.2.2 q j a b (by omega)⟩
    have w6 := r1.2.2.1
    rw [c_rPop y17 (by omega), c_goOn (by omega) (by omega) b3 j21 j22 rfl rfl]
    have hzi : zi ((0 : Int32) = 1) = 0 := rfl
    rw [hzi]
    by_cases l1 : lv = 1
    · subst l1
      have hpc : md_gp 1 = 206 := rfl
      rw [hpc]
      exact ihS1 dd r.1 _ _ r.2 σ4 Q _ r1 hz w1 (by omega) (by rw [w2]; omega) b1 j21 (fun u g1 => c_r93) (fun hz2 σ5 a1 a2 => hF hz2 σ5 a1 (md_pf_tr hpf5 a2 (Nat.le_refl dd))) (fun hz2 σ5 a1 a2 a3 => hO hz2 σ5 a1 (md_pf_tr hpf5 a2 (Nat.le_refl dd)) a3)
    · refine c_goOn_one (d := d) hlv l1 (fun K2 hK2 => ?_)
      exact ihS lv dd r.1 r.2 σ4 Q K2 r1 hz hlv l1 w1 (by omega) (by rw [w2]; omega) b1 j21 (fun u g1 => by rw [hK2]; exact c_r93) (fun hz2 σ5 a1 a2 => hF hz2 σ5 a1 (md_pf_tr hpf5 a2 (Nat.le_refl dd))) (fun hz2 σ5 a1 a2 a3 => hO hz2 σ5 a1 (md_pf_tr hpf5 a2 (Nat.le_refl dd)) a3)
end P4
