/-! READ, as the specification says it, and the reference's -/
def sp_r0 (w : sp_W) : sp_P := (0, (0, 0), 0, w.1)
def sp_rr (F : Nat) (w : sp_W) : Nat × sp_P := sp_pr w.2.2.1 F 0 none (sp_r0 w)
def sp_re (F : Nat) (w : sp_W) : sp_P := if ¬ pF (sp_rr F w).2 = 0 then (sp_rr F w).2 else if ¬ pF (sp_look w.2.2.1 (sp_rr F w).2) = 0 then sp_look w.2.2.1 (sp_rr F w).2 else if tK w.2.2.1 (sp_rr F w).2 = 256 then (sp_rr F w).2 else sp_fail (sp_rr F w).2 2 (tS w.2.2.1 (sp_rr F w).2)
def sp_read (F : Nat) (w : sp_W) : Int32 × sp_W := (if pF (sp_re F w) = 0 then nI (sp_rr F w).1 else -10 - nI (pF (sp_re F w)), (pC (sp_re F w), sp_grow w.2.1 (cN w.1), w.2.2.1, if pF (sp_re F w) = 0 then -1 else nI (sp_re F w).2.1.2, w.2.2.2.2))
theorem sp_r0_ok {w : sp_W} (hw : sp_wok w) : sp_pok w.2.2.1 (cN w.1) (sp_r0 w) := ⟨hw.1, Nat.le_refl _, Nat.zero_le _, Nat.zero_le _, hw.2.2⟩
theorem sp_rr_ok {F : Nat} {w : sp_W} (hF : 24007 ≤ F) (hw : sp_wok w) : sp_pok w.2.2.1 (cN w.1) (sp_rr F w).2 ∧ cN w.1 ≤ cN (pC (sp_rr F w).2) ∧ (pF (sp_rr F w).2 = 0 → (sp_rr F w).1 < 2 * cN (pC (sp_rr F w).2)) ∧ sp_fl (sp_rr F w).2 := by
  have h := sp_pr_ok w.2.2.1 (cN w.1) F 0 none (sp_r0 w) (sp_r0_ok hw) rfl (by decide) (fun _ => by show 8 * (w.2.2.1.2 - 0) + 7 - 0 ≤ F; have := hw.2.2; omega) (fun v hv => by cases hv)
  exact ⟨h.1, h.2.1, fun z => (h.2.2 z).1, sp_pr_fl _ _ _ _ (sp_fl_0 rfl)⟩
theorem sp_re_ok {F : Nat} {w : sp_W} (hF : 24007 ≤ F) (hw : sp_wok w) : sp_pok w.2.2.1 (cN w.1) (sp_re F w) ∧ cN w.1 ≤ cN (pC (sp_re F w)) ∧ sp_fl (sp_re F w) := by
  obtain ⟨h1, h2, -, h4⟩ := sp_rr_ok hF hw
  unfold sp_re
  split
  · exact ⟨h1, h2, h4⟩
  · split
    · exact ⟨sp_look_ok h1, by rw [sp_look_c]; exact h2, sp_look_fl h4⟩
    · split
      · exact ⟨h1, h2, h4⟩
      · refine ⟨sp_fail_ok h1 _ _, by rw [sp_fail_c]; exact h2, ?_⟩
        unfold sp_fail
        split
        · show 2 < 6; decide
        · exact h4
section RD
variable {X : xo_X} {d B : Nat} {σ : md_S} {g : xo_G} {Q : Option Value → xo_G → Prop} {w : sp_W} {F : Nat}
/-- from pc 52 on: place and answer -/
theorem c_mdRead_end {v : Int32} {l2 : Option Value} {σ2 : md_S} (hF : 24007 ≤ F) (hR : md_R σ w) (hP : md_P σ2 w.2.2.1 w.2.1 (cN w.1) (sp_re F w)) (hw : sp_wok w) (hpf : ∀ j, (j = 35 ∨ j = 37 ∨ j = 38 ∨ j = 39) → σ2.1 j = σ.1 j) (hv : pF (sp_re F w) = 0 → v = nI (sp_rr F w).1) (hQ : ∀ σ3, md_R σ3 (sp_read F w).2 → Q (some (.int (sp_read F w).1)) (md_put B σ3 g)) : ev_R X (d + 7) m_Md_read 52 [some (.ref B), some (.int v), l2] [] (md_put B σ2 g) Q := by
  have hfl : pF (sp_re F w) < 6 := (sp_re_ok hF hw).2.2
  have e17 := hP.2.1
  have z17 : σ2.1 17 = 0 ↔ pF (sp_re F w) = 0 := by rw [e17]; exact nE_0 (by omega)
  have fin : ∀ p : Int32, p = (if pF (sp_re F w) = 0 then -1 else nI (sp_re F w).2.1.2) → md_R (md_si σ2 19 p) (sp_read F w).2 := fun p hp => by
    have hb : md_cR (md_si σ2 19 p) (pC (sp_re F w)) ∧ md_eR (md_si σ2 19 p) (cN (pC (sp_re F w))) (sp_grow w.2.1 (cN w.1)) ∧ md_xR (md_si σ2 19 p) w.2.2.1 := md_P_base hP.1 (fun j hj => by rw [md_si_1, if_neg (by omega)]) (fun _ _ => rfl)
    refine ⟨hb.1, hb.2.1, hb.2.2, ?_, ?_⟩
    · rw [md_si_1, if_pos rfl]; exact hp
    · have ht := hR.2.2.2.2
      unfold md_tt at ht ⊢
      simp only [md_si_1, Nat.reduceEqDiff, if_false]
      rw [hpf 35 (by decide), hpf 37 (by decide), hpf 38 (by decide), hpf 39 (by decide)]
      exact ht
  by_cases z : pF (sp_re F w) = 0
  · have z' := z17.mpr z
    simp (disch := first | exact ev_ok_i _ | exact ev_ok_r _ | exact ev_ok_n | omega | assumption) only [e_Md_read_52, e_Md_read_53, e_Md_read_54, e_Md_read_57, e_Md_read_60, e_Md_read_61, e_Md_read_64, e_Md_read_65, e_Md_read_68, e_Md_read_71, e_Md_read_72, e_Md_read_75, e_Md_read_78, e_Md_read_79, e_Md_read_82, e_Md_read_84, e_Md_read_85, e_Md_read_88, e_Md_read_89, ev_rm_n, ev_rm_i, ev_rm_r, ev_rm_l, ev_ok_n, ev_ok_i, ev_ok_r, Option.toList_some, Option.toList_none, List.cons_append, List.nil_append, true_and, and_true, true_or, or_true, reduceIte, Nat.reduceEqDiff, if_true, if_false, md_rc, md_si_1, md_si_2, md_sa_1, md_sa_2, mg_kind, mr_kind, mw_kind, mg_one, mr_one, mw_one, mg_two, mr_two, mw_two, mg_variables, mp_variables, mg_inputs, mp_inputs, mg_inputOf, mr_inputOf, mw_inputOf, mg_nameSign, mr_nameSign, mw_nameSign, mg_nameSize, mr_nameSize, mw_nameSize, mg_label, mr_label, mw_label, mg_isContrary, mp_isContrary, mg_text, mr_text, mw_text, mg_textSize, mp_textSize, mg_at, mp_at, mg_token, mp_token, mg_tokenAt, mp_tokenAt, mg_tokenSize, mp_tokenSize, mg_scanned, mp_scanned, mg_fault, mp_fault, mg_faultAt, mp_faultAt, mg_place, mp_place, mg_open, mp_open, mg_level, mr_level, mw_level, mg_stage, mr_stage, mw_stage, mg_held, mr_held, mw_held, mg_signPlace, mr_signPlace, mw_signPlace, mg_value, mp_value, mg_row, mr_row, mw_row, mg_contrary, mr_contrary, mw_contrary, mg_firstRow, mr_firstRow, mw_firstRow, mg_firstContrary, mr_firstContrary, mw_firstContrary, mg_depthOf, mr_depthOf, mw_depthOf, mg_phase, mr_phase, mw_phase, mg_tried, mr_tried, mw_tried, mg_before, mr_before, mw_before, mg_old, mr_old, mw_old, mg_steps, mp_steps, mg_mostSteps, mp_mostSteps, mg_rounds, mp_rounds, mg_passes, mp_passes, mg_branches, mp_branches, mg_worth, mr_worth, mw_worth, z', not_true_eq_false, if_false, Nat.reduceEqDiff]
    have h := hQ _ (fin (-1) (by rw [if_pos z]))
    have e : (sp_read F w).1 = v := by
      rw [hv z]
      unfold sp_read
      dsimp only
      rw [if_pos z]
    rw [e] at h
    exact h
  · have z' : ¬ σ2.1 17 = 0 := fun y => z (z17.mp y)
    have h18 := hP.2.2.1 z
    simp (disch := first | exact ev_ok_i _ | exact ev_ok_r _ | exact ev_ok_n | omega | assumption) only [e_Md_read_52, e_Md_read_53, e_Md_read_54, e_Md_read_57, e_Md_read_60, e_Md_read_61, e_Md_read_64, e_Md_read_65, e_Md_read_68, e_Md_read_71, e_Md_read_72, e_Md_read_75, e_Md_read_78, e_Md_read_79, e_Md_read_82, e_Md_read_84, e_Md_read_85, e_Md_read_88, e_Md_read_89, ev_rm_n, ev_rm_i, ev_rm_r, ev_rm_l, ev_ok_n, ev_ok_i, ev_ok_r, Option.toList_some, Option.toList_none, List.cons_append, List.nil_append, true_and, and_true, true_or, or_true, reduceIte, Nat.reduceEqDiff, if_true, if_false, md_rc, md_si_1, md_si_2, md_sa_1, md_sa_2, mg_kind, mr_kind, mw_kind, mg_one, mr_one, mw_one, mg_two, mr_two, mw_two, mg_variables, mp_variables, mg_inputs, mp_inputs, mg_inputOf, mr_inputOf, mw_inputOf, mg_nameSign, mr_nameSign, mw_nameSign, mg_nameSize, mr_nameSize, mw_nameSize, mg_label, mr_label, mw_label, mg_isContrary, mp_isContrary, mg_text, mr_text, mw_text, mg_textSize, mp_textSize, mg_at, mp_at, mg_token, mp_token, mg_tokenAt, mp_tokenAt, mg_tokenSize, mp_tokenSize, mg_scanned, mp_scanned, mg_fault, mp_fault, mg_faultAt, mp_faultAt, mg_place, mp_place, mg_open, mp_open, mg_level, mr_level, mw_level, mg_stage, mr_stage, mw_stage, mg_held, mr_held, mw_held, mg_signPlace, mr_signPlace, mw_signPlace, mg_value, mp_value, mg_row, mr_row, mw_row, mg_contrary, mr_contrary, mw_contrary, mg_firstRow, mr_firstRow, mw_firstRow, mg_firstContrary, mr_firstContrary, mw_firstContrary, mg_depthOf, mr_depthOf, mw_depthOf, mg_phase, mr_phase, mw_phase, mg_tried, mr_tried, mw_tried, mg_before, mr_before, mw_before, mg_old, mr_old, mw_old, mg_steps, mp_steps, mg_mostSteps, mp_mostSteps, mg_rounds, mp_rounds, mg_passes, mp_passes, mg_branches, mp_branches, mg_worth, mr_worth, mw_worth, z', not_false_eq_true, if_true, Nat.reduceEqDiff, h18]
    have h := hQ _ (fin (nI (sp_re F w).2.1.2) (by rw [if_neg z]))
    have e : (sp_read F w).1 = -10 - σ2.1 17 := by
      rw [e17]
      unfold sp_read
      dsimp only
      rw [if_neg z]
    rw [e] at h
    exact h
theorem c_mdRead (hF : 24007 ≤ F) (hR : md_R σ w) (hw : sp_wok w) (hQ : ∀ σ2, md_R σ2 (sp_read F w).2 → Q (some (.int (sp_read F w).1)) (md_put B σ2 g)) : ev_C X (d + 7) m_Md_read [.ref B] (md_put B σ g) Q := by
  show ev_R X (d + 7) m_Md_read 0 [some (.ref B), none, none] [] (md_put B σ g) Q
  have hx3 := hw.2.2
  simp (disch := first | exact ev_ok_i _ | exact ev_ok_r _ | exact ev_ok_n | omega | assumption) only [e_Md_read_0, e_Md_read_1, e_Md_read_2, e_Md_read_5, e_Md_read_6, e_Md_read_7, e_Md_read_10, e_Md_read_11, e_Md_read_12, e_Md_read_15, e_Md_read_16, e_Md_read_17, e_Md_read_20, e_Md_read_21, ev_rm_n, ev_rm_i, ev_rm_r, ev_rm_l, ev_ok_n, ev_ok_i, ev_ok_r, Option.toList_some, Option.toList_none, List.cons_append, List.nil_append, true_and, and_true, true_or, or_true, reduceIte, Nat.reduceEqDiff, if_true, if_false, md_rc, md_si_1, md_si_2, md_sa_1, md_sa_2, mg_kind, mr_kind, mw_kind, mg_one, mr_one, mw_one, mg_two, mr_two, mw_two, mg_variables, mp_variables, mg_inputs, mp_inputs, mg_inputOf, mr_inputOf, mw_inputOf, mg_nameSign, mr_nameSign, mw_nameSign, mg_nameSize, mr_nameSize, mw_nameSize, mg_label, mr_label, mw_label, mg_isContrary, mp_isContrary, mg_text, mr_text, mw_text, mg_textSize, mp_textSize, mg_at, mp_at, mg_token, mp_token, mg_tokenAt, mp_tokenAt, mg_tokenSize, mp_tokenSize, mg_scanned, mp_scanned, mg_fault, mp_fault, mg_faultAt, mp_faultAt, mg_place, mp_place, mg_open, mp_open, mg_level, mr_level, mw_level, mg_stage, mr_stage, mw_stage, mg_held, mr_held, mw_held, mg_signPlace, mr_signPlace, mw_signPlace, mg_value, mp_value, mg_row, mr_row, mw_row, mg_contrary, mr_contrary, mw_contrary, mg_firstRow, mr_firstRow, mw_firstRow, mg_firstContrary, mr_firstContrary, mw_firstContrary, mg_depthOf, mr_depthOf, mw_depthOf, mg_phase, mr_phase, mw_phase, mg_tried, mr_tried, mw_tried, mg_before, mr_before, mw_before, mg_old, mr_old, mw_old, mg_steps, mp_steps, mg_mostSteps, mp_mostSteps, mg_rounds, mp_rounds, mg_passes, mp_passes, mg_branches, mp_branches, mg_worth, mr_worth, mw_worth]
  show ev_R X (d + 6) m_Md_readFormula 0 [some (.ref B), none, none] [] (md_put B (md_si (md_si (md_si (md_si σ 12 0) 16 0) 17 0) 20 0) g) _
  have h00 : (0 : Int32).toNatClampNeg = 0 := rfl
  have e0 : (0 : Int32) = nI 0 := rfl
  simp (disch := first | exact ev_ok_i _ | exact ev_ok_r _ | exact ev_ok_n | omega | assumption) only [e_Md_readFormula_0, e_Md_readFormula_1, e_Md_readFormula_2, e_Md_readFormula_3, e_Md_readFormula_6, e_Md_readFormula_7, e_Md_readFormula_8, e_Md_readFormula_9, e_Md_readFormula_10, e_Md_readFormula_13, e_Md_readFormula_14, e_Md_readFormula_15, e_Md_readFormula_16, e_Md_readFormula_17, e_Md_readFormula_20, ev_rm_n, ev_rm_i, ev_rm_r, ev_rm_l, ev_ok_n, ev_ok_i, ev_ok_r, Option.toList_some, Option.toList_none, List.cons_append, List.nil_append, true_and, and_true, true_or, or_true, reduceIte, Nat.reduceEqDiff, if_true, if_false, md_rc, md_si_1, md_si_2, md_sa_1, md_sa_2, mg_kind, mr_kind, mw_kind, mg_one, mr_one, mw_one, mg_two, mr_two, mw_two, mg_variables, mp_variables, mg_inputs, mp_inputs, mg_inputOf, mr_inputOf, mw_inputOf, mg_nameSign, mr_nameSign, mw_nameSign, mg_nameSize, mr_nameSize, mw_nameSize, mg_label, mr_label, mw_label, mg_isContrary, mp_isContrary, mg_text, mr_text, mw_text, mg_textSize, mp_textSize, mg_at, mp_at, mg_token, mp_token, mg_tokenAt, mp_tokenAt, mg_tokenSize, mp_tokenSize, mg_scanned, mp_scanned, mg_fault, mp_fault, mg_faultAt, mp_faultAt, mg_place, mp_place, mg_open, mp_open, mg_level, mr_level, mw_level, mg_stage, mr_stage, mw_stage, mg_held, mr_held, mw_held, mg_signPlace, mr_signPlace, mw_signPlace, mg_value, mp_value, mg_row, mr_row, mw_row, mg_contrary, mr_contrary, mw_contrary, mg_firstRow, mr_firstRow, mw_firstRow, mg_firstContrary, mr_firstContrary, mw_firstContrary, mg_depthOf, mr_depthOf, mw_depthOf, mg_phase, mr_phase, mw_phase, mg_tried, mr_tried, mw_tried, mg_before, mr_before, mw_before, mg_old, mr_old, mw_old, mg_steps, mp_steps, mg_mostSteps, mp_mostSteps, mg_rounds, mp_rounds, mg_passes, mp_passes, mg_branches, mp_branches, mg_worth, mr_worth, mw_worth, xo_o0, h00, Nat.reduceEqDiff, not_true_eq_false, if_false]
  generalize hσ1 : md_sa (md_sa (md_si (md_si (md_si (md_si σ 12 0) 16 0) 17 0) 20 0) 21 0 0) 22 0 0 = σ1
  have P1 : md_P σ1 w.2.2.1 w.2.1 (cN w.1) (sp_r0 w) := by
    have hb := md_P_base (σ2 := σ1) (E := w.2.1) (n0 := cN w.1) ⟨hR.1, md_eR_grow hR.2.1, hR.2.2.1⟩ (fun j hj => by
      rw [← hσ1]
      simp only [md_sa_1, md_si_1]
      rw [if_neg (by omega), if_neg (by omega), if_neg (by omega), if_neg (by omega)]) (fun q hq => by
      rw [← hσ1]
      simp only [md_sa_2, md_si_2]
      rw [if_neg (by omega), if_neg (by omega)])
    refine ⟨hb, ?_, fun z => absurd rfl z, fun _ => ⟨?_, Or.inl ⟨?_, ?_⟩⟩⟩ <;> rw [← hσ1] <;> simp only [md_sa_1, md_si_1, Nat.reduceEqDiff, if_false, if_true] <;> rfl
  have pf1 : ∀ j, (j = 35 ∨ j = 37 ∨ j = 38 ∨ j = 39) → σ1.1 j = σ.1 j := fun j hj => by
    rw [← hσ1]
    simp only [md_sa_1, md_si_1]
    rw [if_neg (by omega), if_neg (by omega), if_neg (by omega), if_neg (by omega)]
  have h21 : σ1.2 21 0 = nI 0 := by rw [← hσ1]; simp only [md_sa_2, Nat.reduceEqDiff, if_false, if_true, upd_a]; rfl
  have h22 : σ1.2 22 0 = 0 := by rw [← hσ1]; simp only [md_sa_2, Nat.reduceEqDiff, if_false, if_true, upd_a]
  obtain ⟨r1, r2, r3, r4⟩ := sp_rr_ok hF hw
  have PK := (md_PS X d B g w.2.2.1 w.2.1 (cN w.1) F).1 0 0 (sp_r0 w) σ1 none
  rw [e0]
  refine PK _ (sp_r0_ok hw) rfl (by decide) (by show 8 * (w.2.2.1.2 - 0) + 7 - 0 ≤ F; omega) (by show 0 + (5 - 0) + 6 * (40 - 0) ≤ 245; decide) P1 h21 h22 (fun hz σ2 p1 p2 => ?_) (fun hz σ2 p1 p2 p3 => ?_)
  · -- a fault
    have hz' : ¬ pF (sp_rr F w).2 = 0 := hz
    have ere : sp_re F w = (sp_rr F w).2 := by unfold sp_re; rw [if_pos hz']
    have p1' : md_P σ2 w.2.2.1 w.2.1 (cN w.1) (sp_rr F w).2 := p1
    have x17 : ¬ σ2.1 17 = 0 := by
      rw [p1'.2.1]
      have : pF (sp_rr F w).2 < 6 := r4
      exact fun y => hz' ((nE_0 (by omega)).mp y)
    simp (disch := first | exact ev_ok_i _ | exact ev_ok_r _ | exact ev_ok_n | omega | assumption) only [e_Md_read_24, e_Md_read_25, e_Md_read_26, e_Md_read_29, ev_rm_n, ev_rm_i, ev_rm_r, ev_rm_l, ev_ok_n, ev_ok_i, ev_ok_r, Option.toList_some, Option.toList_none, List.cons_append, List.nil_append, true_and, and_true, true_or, or_true, reduceIte, Nat.reduceEqDiff, if_true, if_false, md_rc, md_si_1, md_si_2, md_sa_1, md_sa_2, mg_kind, mr_kind, mw_kind, mg_one, mr_one, mw_one, mg_two, mr_two, mw_two, mg_variables, mp_variables, mg_inputs, mp_inputs, mg_inputOf, mr_inputOf, mw_inputOf, mg_nameSign, mr_nameSign, mw_nameSign, mg_nameSize, mr_nameSize, mw_nameSize, mg_label, mr_label, mw_label, mg_isContrary, mp_isContrary, mg_text, mr_text, mw_text, mg_textSize, mp_textSize, mg_at, mp_at, mg_token, mp_token, mg_tokenAt, mp_tokenAt, mg_tokenSize, mp_tokenSize, mg_scanned, mp_scanned, mg_fault, mp_fault, mg_faultAt, mp_faultAt, mg_place, mp_place, mg_open, mp_open, mg_level, mr_level, mw_level, mg_stage, mr_stage, mw_stage, mg_held, mr_held, mw_held, mg_signPlace, mr_signPlace, mw_signPlace, mg_value, mp_value, mg_row, mr_row, mw_row, mg_contrary, mr_contrary, mw_contrary, mg_firstRow, mr_firstRow, mw_firstRow, mg_firstContrary, mr_firstContrary, mw_firstContrary, mg_depthOf, mr_depthOf, mw_depthOf, mg_phase, mr_phase, mw_phase, mg_tried, mr_tried, mw_tried, mg_before, mr_before, mw_before, mg_old, mr_old, mw_old, mg_steps, mp_steps, mg_mostSteps, mp_mostSteps, mg_rounds, mp_rounds, mg_passes, mp_passes, mg_branches, mp_branches, mg_worth, mr_worth, mw_worth, x17, not_false_eq_true, if_true]
    exact c_mdRead_end hF hR (by rw [ere]; exact p1') hw (fun j hj => by rw [p2.1 j (by omega) (by omega) (by omega) (by omega) (by omega)]; exact pf1 j hj) (fun z => absurd z (by rw [ere]; exact hz')) hQ
  · have hz' : pF (sp_rr F w).2 = 0 := hz
    have p1' : md_P σ2 w.2.2.1 w.2.1 (cN w.1) (sp_rr F w).2 := p1
    have p3' : σ2.1 25 = nI (sp_rr F w).1 := p3
    have x17 : σ2.1 17 = 0 := by rw [p1'.2.1, hz']; rfl
    unfold md_r70
    have n1 : ¬ (0 : Int32) ≤ -1 := by decide
    have n2 : nI 0 ≤ 0 := by decide
    simp (disch := first | exact ev_ok_i _ | exact ev_ok_r _ | exact ev_ok_n | omega | assumption) only [e_Md_readFormula_70, e_Md_readFormula_71, e_Md_readFormula_74, e_Md_readFormula_75, e_Md_readFormula_97, e_Md_readFormula_98, e_Md_readFormula_101, e_Md_readFormula_102, e_Md_readFormula_105, e_Md_readFormula_108, e_Md_readFormula_109, e_Md_readFormula_112, e_Md_readFormula_116, ev_rm_n, ev_rm_i, ev_rm_r, ev_rm_l, ev_ok_n, ev_ok_i, ev_ok_r, Option.toList_some, Option.toList_none, List.cons_append, List.nil_append, true_and, and_true, true_or, or_true, reduceIte, Nat.reduceEqDiff, if_true, if_false, md_rc, md_si_1, md_si_2, md_sa_1, md_sa_2, mg_kind, mr_kind, mw_kind, mg_one, mr_one, mw_one, mg_two, mr_two, mw_two, mg_variables, mp_variables, mg_inputs, mp_inputs, mg_inputOf, mr_inputOf, mw_inputOf, mg_nameSign, mr_nameSign, mw_nameSign, mg_nameSize, mr_nameSize, mw_nameSize, mg_label, mr_label, mw_label, mg_isContrary, mp_isContrary, mg_text, mr_text, mw_text, mg_textSize, mp_textSize, mg_at, mp_at, mg_token, mp_token, mg_tokenAt, mp_tokenAt, mg_tokenSize, mp_tokenSize, mg_scanned, mp_scanned, mg_fault, mp_fault, mg_faultAt, mp_faultAt, mg_place, mp_place, mg_open, mp_open, mg_level, mr_level, mw_level, mg_stage, mr_stage, mw_stage, mg_held, mr_held, mw_held, mg_signPlace, mr_signPlace, mw_signPlace, mg_value, mp_value, mg_row, mr_row, mw_row, mg_contrary, mr_contrary, mw_contrary, mg_firstRow, mr_firstRow, mw_firstRow, mg_firstContrary, mr_firstContrary, mw_firstContrary, mg_depthOf, mr_depthOf, mw_depthOf, mg_phase, mr_phase, mw_phase, mg_tried, mr_tried, mw_tried, mg_before, mr_before, mw_before, mg_old, mr_old, mw_old, mg_steps, mp_steps, mg_mostSteps, mp_mostSteps, mg_rounds, mp_rounds, mg_passes, mp_passes, mg_branches, mp_branches, mg_worth, mr_worth, mw_worth, n1, n2, x17, p3', not_true_eq_false, if_true, if_false]
    simp (disch := first | exact ev_ok_i _ | exact ev_ok_r _ | exact ev_ok_n | omega | assumption) only [e_Md_read_24, e_Md_read_25, e_Md_read_26, e_Md_read_29, e_Md_read_32, e_Md_read_33, ev_rm_n, ev_rm_i, ev_rm_r, ev_rm_l, ev_ok_n, ev_ok_i, ev_ok_r, Option.toList_some, Option.toList_none, List.cons_append, List.nil_append, true_and, and_true, true_or, or_true, reduceIte, Nat.reduceEqDiff, if_true, if_false, md_rc, md_si_1, md_si_2, md_sa_1, md_sa_2, mg_kind, mr_kind, mw_kind, mg_one, mr_one, mw_one, mg_two, mr_two, mw_two, mg_variables, mp_variables, mg_inputs, mp_inputs, mg_inputOf, mr_inputOf, mw_inputOf, mg_nameSign, mr_nameSign, mw_nameSign, mg_nameSize, mr_nameSize, mw_nameSize, mg_label, mr_label, mw_label, mg_isContrary, mp_isContrary, mg_text, mr_text, mw_text, mg_textSize, mp_textSize, mg_at, mp_at, mg_token, mp_token, mg_tokenAt, mp_tokenAt, mg_tokenSize, mp_tokenSize, mg_scanned, mp_scanned, mg_fault, mp_fault, mg_faultAt, mp_faultAt, mg_place, mp_place, mg_open, mp_open, mg_level, mr_level, mw_level, mg_stage, mr_stage, mw_stage, mg_held, mr_held, mw_held, mg_signPlace, mr_signPlace, mw_signPlace, mg_value, mp_value, mg_row, mr_row, mw_row, mg_contrary, mr_contrary, mw_contrary, mg_firstRow, mr_firstRow, mw_firstRow, mg_firstContrary, mr_firstContrary, mw_firstContrary, mg_depthOf, mr_depthOf, mw_depthOf, mg_phase, mr_phase, mw_phase, mg_tried, mr_tried, mw_tried, mg_before, mr_before, mw_before, mg_old, mr_old, mw_old, mg_steps, mp_steps, mg_mostSteps, mp_mostSteps, mg_rounds, mp_rounds, mg_passes, mp_passes, mg_branches, mp_branches, mg_worth, mr_worth, mw_worth, x17, not_true_eq_false, if_false]
    refine c_look (d := d + 4) p1' r1 hz' (fun σ3 q1 q2 q3 => ?_)
    have pf3 : ∀ j, (j = 35 ∨ j = 37 ∨ j = 38 ∨ j = 39) → σ3.1 j = σ.1 j := fun j hj => by rw [q3.1 j (by omega) (by omega) (by omega) (by omega), p2.1 j (by omega) (by omega) (by omega) (by omega) (by omega)]; exact pf1 j hj
    by_cases hl : pF (sp_look w.2.2.1 (sp_rr F w).2) = 0
    · have el := (sp_look_0 hl).1
      have ere : sp_re F w = if tK w.2.2.1 (sp_rr F w).2 = 256 then (sp_rr F w).2 else sp_fail (sp_rr F w).2 2 (tS w.2.2.1 (sp_rr F w).2) := by
        unfold sp_re
        rw [if_neg (fun z => z hz'), if_neg (fun z => z hl)]
      rw [el] at q1
      have y17 : σ3.1 17 = 0 := by rw [q1.2.1, hz']; rfl
      by_cases ht : tK w.2.2.1 (sp_rr F w).2 = 256
      · rw [if_pos ht] at ere
        simp (disch := first | exact ev_ok_i _ | exact ev_ok_r _ | exact ev_ok_n | omega | assumption) only [e_Md_read_36, e_Md_read_39, ev_rm_n, ev_rm_i, ev_rm_r, ev_rm_l, ev_ok_n, ev_ok_i, ev_ok_r, Option.toList_some, Option.toList_none, List.cons_append, List.nil_append, true_and, and_true, true_or, or_true, reduceIte, Nat.reduceEqDiff, if_true, if_false, ht, if_true]
        exact c_mdRead_end hF hR (by rw [ere]; exact q1) hw pf3 (fun _ => rfl) hQ
      · rw [if_neg ht] at ere
        simp (disch := first | exact ev_ok_i _ | exact ev_ok_r _ | exact ev_ok_n | omega | assumption) only [e_Md_read_36, e_Md_read_39, e_Md_read_42, e_Md_read_43, e_Md_read_44, e_Md_read_45, ev_rm_n, ev_rm_i, ev_rm_r, ev_rm_l, ev_ok_n, ev_ok_i, ev_ok_r, Option.toList_some, Option.toList_none, List.cons_append, List.nil_append, true_and, and_true, true_or, or_true, reduceIte, Nat.reduceEqDiff, if_true, if_false, md_rc, md_si_1, md_si_2, md_sa_1, md_sa_2, mg_kind, mr_kind, mw_kind, mg_one, mr_one, mw_one, mg_two, mr_two, mw_two, mg_variables, mp_variables, mg_inputs, mp_inputs, mg_inputOf, mr_inputOf, mw_inputOf, mg_nameSign, mr_nameSign, mw_nameSign, mg_nameSize, mr_nameSize, mw_nameSize, mg_label, mr_label, mw_label, mg_isContrary, mp_isContrary, mg_text, mr_text, mw_text, mg_textSize, mp_textSize, mg_at, mp_at, mg_token, mp_token, mg_tokenAt, mp_tokenAt, mg_tokenSize, mp_tokenSize, mg_scanned, mp_scanned, mg_fault, mp_fault, mg_faultAt, mp_faultAt, mg_place, mp_place, mg_open, mp_open, mg_level, mr_level, mw_level, mg_stage, mr_stage, mw_stage, mg_held, mr_held, mw_held, mg_signPlace, mr_signPlace, mw_signPlace, mg_value, mp_value, mg_row, mr_row, mw_row, mg_contrary, mr_contrary, mw_contrary, mg_firstRow, mr_firstRow, mw_firstRow, mg_firstContrary, mr_firstContrary, mw_firstContrary, mg_depthOf, mr_depthOf, mw_depthOf, mg_phase, mr_phase, mw_phase, mg_tried, mr_tried, mw_tried, mg_before, mr_before, mw_before, mg_old, mr_old, mw_old, mg_steps, mp_steps, mg_mostSteps, mp_mostSteps, mg_rounds, mp_rounds, mg_passes, mp_passes, mg_branches, mp_branches, mg_worth, mr_worth, mw_worth, ht, if_false, q2.2.2.1]
        rw [e_Md_read_48]
        simp (disch := first | exact ev_ok_i _ | exact ev_ok_r _ | exact ev_ok_n | omega | assumption) only [ev_rm_n, ev_rm_i, ev_rm_r, ev_rm_l, ev_ok_n, ev_ok_i, ev_ok_r, Option.toList_some, Option.toList_none, List.cons_append, List.nil_append, true_and, and_true, true_or, or_true, reduceIte, Nat.reduceEqDiff, if_true, if_false, md_rc, md_si_1, md_si_2, md_sa_1, md_sa_2, mg_kind, mr_kind, mw_kind, mg_one, mr_one, mw_one, mg_two, mr_two, mw_two, mg_variables, mp_variables, mg_inputs, mp_inputs, mg_inputOf, mr_inputOf, mw_inputOf, mg_nameSign, mr_nameSign, mw_nameSign, mg_nameSize, mr_nameSize, mw_nameSize, mg_label, mr_label, mw_label, mg_isContrary, mp_isContrary, mg_text, mr_text, mw_text, mg_textSize, mp_textSize, mg_at, mp_at, mg_token, mp_token, mg_tokenAt, mp_tokenAt, mg_tokenSize, mp_tokenSize, mg_scanned, mp_scanned, mg_fault, mp_fault, mg_faultAt, mp_faultAt, mg_place, mp_place, mg_open, mp_open, mg_level, mr_level, mw_level, mg_stage, mr_stage, mw_stage, mg_held, mr_held, mw_held, mg_signPlace, mr_signPlace, mw_signPlace, mg_value, mp_value, mg_row, mr_row, mw_row, mg_contrary, mr_contrary, mw_contrary, mg_firstRow, mr_firstRow, mw_firstRow, mg_firstContrary, mr_firstContrary, mw_firstContrary, mg_depthOf, mr_depthOf, mw_depthOf, mg_phase, mr_phase, mw_phase, mg_tried, mr_tried, mw_tried, mg_before, mr_before, mw_before, mg_old, mr_old, mw_old, mg_steps, mp_steps, mg_mostSteps, mp_mostSteps, mg_rounds, mp_rounds, mg_passes, mp_passes, mg_branches, mp_branches, mg_worth, mr_worth, mw_worth]
        rw [c_fail0 y17]
        simp (disch := first | exact ev_ok_i _ | exact ev_ok_r _ | exact ev_ok_n | omega | assumption) only [e_Md_read_51, ev_rm_n, ev_rm_i, ev_rm_r, ev_rm_l, ev_ok_n, ev_ok_i, ev_ok_r, Option.toList_some, Option.toList_none, List.cons_append, List.nil_append, true_and, and_true, true_or, or_true, reduceIte, Nat.reduceEqDiff, if_true, if_false]
        have hP4 := md_P_fail (k := 2) (a := tS w.2.2.1 (sp_rr F w).2) q1.1 hz' (by decide)
        refine c_mdRead_end hF hR (by rw [ere]; exact hP4) hw (fun j hj => ?_) (fun z => absurd z (by rw [ere]; exact sp_fail_f (by decide))) hQ
        simp only [md_si_1]
        rw [if_neg (by omega), if_neg (by omega)]
        exact pf3 j hj
    · have ere : sp_re F w = sp_look w.2.2.1 (sp_rr F w).2 := by
        unfold sp_re
        rw [if_neg (fun z => z hz'), if_pos hl]
      have y17 : ¬ σ3.1 17 = 0 := by
        rw [q1.2.1]
        have : pF (sp_look w.2.2.1 (sp_rr F w).2) < 6 := sp_look_fl r4
        exact fun y => hl ((nE_0 (by omega)).mp y)
      have ht : ¬ tK w.2.2.1 (sp_rr F w).2 = 256 := fun y => by
        apply hl
        unfold sp_look
        rw [if_neg (by rw [y]; decide)]
        exact hz'
      simp (disch := first | exact ev_ok_i _ | exact ev_ok_r _ | exact ev_ok_n | omega | assumption) only [e_Md_read_36, e_Md_read_39, e_Md_read_42, e_Md_read_43, e_Md_read_44, e_Md_read_45, ev_rm_n, ev_rm_i, ev_rm_r, ev_rm_l, ev_ok_n, ev_ok_i, ev_ok_r, Option.toList_some, Option.toList_none, List.cons_append, List.nil_append, true_and, and_true, true_or, or_true, reduceIte, Nat.reduceEqDiff, if_true, if_false, md_rc, md_si_1, md_si_2, md_sa_1, md_sa_2, mg_kind, mr_kind, mw_kind, mg_one, mr_one, mw_one, mg_two, mr_two, mw_two, mg_variables, mp_variables, mg_inputs, mp_inputs, mg_inputOf, mr_inputOf, mw_inputOf, mg_nameSign, mr_nameSign, mw_nameSign, mg_nameSize, mr_nameSize, mw_nameSize, mg_label, mr_label, mw_label, mg_isContrary, mp_isContrary, mg_text, mr_text, mw_text, mg_textSize, mp_textSize, mg_at, mp_at, mg_token, mp_token, mg_tokenAt, mp_tokenAt, mg_tokenSize, mp_tokenSize, mg_scanned, mp_scanned, mg_fault, mp_fault, mg_faultAt, mp_faultAt, mg_place, mp_place, mg_open, mp_open, mg_level, mr_level, mw_level, mg_stage, mr_stage, mw_stage, mg_held, mr_held, mw_held, mg_signPlace, mr_signPlace, mw_signPlace, mg_value, mp_value, mg_row, mr_row, mw_row, mg_contrary, mr_contrary, mw_contrary, mg_firstRow, mr_firstRow, mw_firstRow, mg_firstContrary, mr_firstContrary, mw_firstContrary, mg_depthOf, mr_depthOf, mw_depthOf, mg_phase, mr_phase, mw_phase, mg_tried, mr_tried, mw_tried, mg_before, mr_before, mw_before, mg_old, mr_old, mw_old, mg_steps, mp_steps, mg_mostSteps, mp_mostSteps, mg_rounds, mp_rounds, mg_passes, mp_passes, mg_branches, mp_branches, mg_worth, mr_worth, mw_worth, ht, if_false]
      rw [e_Md_read_48]
      simp (disch := first | exact ev_ok_i _ | exact ev_ok_r _ | exact ev_ok_n | omega | assumption) only [ev_rm_n, ev_rm_i, ev_rm_r, ev_rm_l, ev_ok_n, ev_ok_i, ev_ok_r, Option.toList_some, Option.toList_none, List.cons_append, List.nil_append, true_and, and_true, true_or, or_true, reduceIte, Nat.reduceEqDiff, if_true, if_false, md_rc, md_si_1, md_si_2, md_sa_1, md_sa_2, mg_kind, mr_kind, mw_kind, mg_one, mr_one, mw_one, mg_two, mr_two, mw_two, mg_variables, mp_variables, mg_inputs, mp_inputs, mg_inputOf, mr_inputOf, mw_inputOf, mg_nameSign, mr_nameSign, mw_nameSign, mg_nameSize, mr_nameSize, mw_nameSize, mg_label, mr_label, mw_label, mg_isContrary, mp_isContrary, mg_text, mr_text, mw_text, mg_textSize, mp_textSize, mg_at, mp_at, mg_token, mp_token, mg_tokenAt, mp_tokenAt, mg_tokenSize, mp_tokenSize, mg_scanned, mp_scanned, mg_fault, mp_fault, mg_faultAt, mp_faultAt, mg_place, mp_place, mg_open, mp_open, mg_level, mr_level, mw_level, mg_stage, mr_stage, mw_stage, mg_held, mr_held, mw_held, mg_signPlace, mr_signPlace, mw_signPlace, mg_value, mp_value, mg_row, mr_row, mw_row, mg_contrary, mr_contrary, mw_contrary, mg_firstRow, mr_firstRow, mw_firstRow, mg_firstContrary, mr_firstContrary, mw_firstContrary, mg_depthOf, mr_depthOf, mw_depthOf, mg_phase, mr_phase, mw_phase, mg_tried, mr_tried, mw_tried, mg_before, mr_before, mw_before, mg_old, mr_old, mw_old, mg_steps, mp_steps, mg_mostSteps, mp_mostSteps, mg_rounds, mp_rounds, mg_passes, mp_passes, mg_branches, mp_branches, mg_worth, mr_worth, mw_worth]
      rw [c_failn y17]
      simp (disch := first | exact ev_ok_i _ | exact ev_ok_r _ | exact ev_ok_n | omega | assumption) only [e_Md_read_51, ev_rm_n, ev_rm_i, ev_rm_r, ev_rm_l, ev_ok_n, ev_ok_i, ev_ok_r, Option.toList_some, Option.toList_none, List.cons_append, List.nil_append, true_and, and_true, true_or, or_true, reduceIte, Nat.reduceEqDiff, if_true, if_false]
      exact c_mdRead_end hF hR (by rw [ere]; exact q1) hw pf3 (fun z => absurd z (by rw [ere]; exact hl)) hQ
end RD
