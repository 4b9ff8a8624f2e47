/-! saturation to depth 0 of the reference -/
/-- tallies (steps, rounds, passes, branches) and the scratch row 'old' -/
def md_T (σ : md_S) (t : Nat × Nat × Nat × Nat) (o : Nat → Int32) : md_S := (va_up (va_up (va_up (va_up σ.1 35 (nI t.1)) 37 (nI t.2.1)) 38 (nI t.2.2.1)) 39 (nI t.2.2.2), va_up σ.2 34 o)
theorem md_T_1 (σ : md_S) (t : Nat × Nat × Nat × Nat) (o : Nat → Int32) (k : Nat) : (md_T σ t o).1 k = if k = 39 then nI t.2.2.2 else if k = 38 then nI t.2.2.1 else if k = 37 then nI t.2.1 else if k = 35 then nI t.1 else σ.1 k := rfl
theorem md_T_2 (σ : md_S) (t : Nat × Nat × Nat × Nat) (o : Nat → Int32) (k : Nat) : (md_T σ t o).2 k = if k = 34 then o else σ.2 k := rfl
theorem md_T_s (σ : md_S) (t : Nat × Nat × Nat × Nat) (o : Nat → Int32) (v : Nat) : md_si (md_T σ t o) 35 (nI v) = md_T σ (v, t.2) o := by
  refine Prod.ext (funext fun k => ?_) rfl
  rw [md_si_1, md_T_1, md_T_1]
  by_cases h : k = 35
  · subst h; simp
  · simp [h]
theorem md_T_r (σ : md_S) (t : Nat × Nat × Nat × Nat) (o : Nat → Int32) (v : Nat) : md_si (md_T σ t o) 37 (nI v) = md_T σ (t.1, v, t.2.2) o := by
  refine Prod.ext (funext fun k => ?_) rfl
  rw [md_si_1, md_T_1, md_T_1]
  by_cases h : k = 37
  · subst h; simp
  · simp [h]
theorem md_T_p (σ : md_S) (t : Nat × Nat × Nat × Nat) (o : Nat → Int32) (v : Nat) : md_si (md_T σ t o) 38 (nI v) = md_T σ (t.1, t.2.1, v, t.2.2.2) o := by
  refine Prod.ext (funext fun k => ?_) rfl
  rw [md_si_1, md_T_1, md_T_1]
  by_cases h : k = 38
  · subst h; simp
  · simp [h]
theorem md_T_b (σ : md_S) (t : Nat × Nat × Nat × Nat) (o : Nat → Int32) (v : Nat) : md_si (md_T σ t o) 39 (nI v) = md_T σ (t.1, t.2.1, t.2.2.1, v) o := by
  refine Prod.ext (funext fun k => ?_) rfl
  rw [md_si_1, md_T_1, md_T_1]
  by_cases h : k = 39
  · subst h; simp
  · simp [h]
theorem md_T_o (σ : md_S) (t : Nat × Nat × Nat × Nat) (o h : Nat → Int32) (lo hi : Nat) : md_fi (md_T σ t o) 34 h lo hi = md_T σ t (fun j => if lo ≤ j ∧ j < hi then h j else o j) := by
  refine Prod.ext rfl (funext fun q => ?_)
  rw [md_fi_2, md_T_2, md_T_2, md_T_2]
  by_cases e : q = 34
  · subst e; rfl
  · simp only [e, if_false]
/-- how many classes -/
def sp_cn (n : Nat) (E : sp_E) : Nat := sp_ct (fun l => E.1 l == l) 0 (2 * n)
theorem sp_cn_le (n : Nat) (E : sp_E) : sp_cn n E ≤ 2 * n := sp_ct_le _ _ _
/-- rounds, at most k: the labels and how many -/
def sp_sat0 (n : Nat) (kd o1 o2 : Nat → Nat) : Nat → sp_E → Nat → sp_E × Nat
  | 0, E, r => (E, r)
  | k + 1, E, r => if E.2 = true then (E, r) else if (sp_rd n kd o1 o2 E).2 = false ∧ sp_cn n (sp_rd n kd o1 o2 E) < sp_cn n E then sp_sat0 n kd o1 o2 k (sp_rd n kd o1 o2 E) (r + 1) else (sp_rd n kd o1 o2 E, r + 1)
theorem sp_sat0_bd {n : Nat} {kd o1 o2 : Nat → Nat} (hw : sp_wf n kd o1 o2) (h0 : 1 ≤ n) : ∀ (k : Nat) (E : sp_E) (r : Nat), sp_bd n E → sp_bd n (sp_sat0 n kd o1 o2 k E r).1 := by
  intro k
  induction k with
  | zero => intro E r hE; exact hE
  | succ k ih =>
    intro E r hE
    unfold sp_sat0
    split
    · exact hE
    · split
      · exact ih _ _ (sp_rd_bd hw h0 hE)
      · exact sp_rd_bd hw h0 hE
theorem sp_zb_0 (b : Bool) : (sp_zb b = 0) = (b = false) := by cases b <;> simp [sp_zb]
section M6
variable {X : xo_X} {d B : Nat} {σ : md_S} {g : xo_G} {Q : Option Value → xo_G → Prop}
theorem md_ci_T {n : Nat} {kd o1 o2 : Nat → Nat} (hc : md_ci σ n kd o1 o2) (t : Nat × Nat × Nat × Nat) (o : Nat → Int32) : md_ci (md_T σ t o) n kd o1 o2 := hc
theorem c_roundT {n f : Nat} {kd o1 o2 : Nat → Nat} (hc : md_ci σ n kd o1 o2) (hw : sp_wf n kd o1 o2) (hf : f < 6) {t : Nat × Nat × Nat × Nat} {o : Nat → Int32} {E : sp_E} (hE : sp_bd n E) : ev_C X (d + 3) m_Md_round [.ref B, .int (nI f)] (md_put B (md_wr (md_T σ t o) n f E) g) Q ↔ Q none (md_put B (md_wr (md_T σ (t.1, t.2.1 + 1, t.2.2) (fun j => if 0 ≤ j ∧ j < 2 * n then nI (E.1 j) else o j)) n f (sp_rd n kd o1 o2 E)) g) := by
  rw [c_round (md_ci_T hc t o) hw hf (r := t.2.1) rfl hE, md_T_r, md_T_o]
theorem c_classesT {n f : Nat} (h1 : σ.1 3 = nI n) (hn : n ≤ 120) (hf : f < 6) {E : sp_E} (hE : sp_bd n E) : ev_C X d m_Md_classes [.ref B, .int (nI f)] (md_put B (md_wr σ n f E) g) Q ↔ Q (some (.int (nI (sp_cn n E)))) (md_put B (md_wr σ n f E) g) :=
  c_classes (σ := md_wr σ n f E) (lb := E.1) h1 hn hf (fun l hl => ⟨md_wr_row σ E hl, by have := hE l hl; omega⟩)
theorem c_plain_loop {n f : Nat} {kd o1 o2 : Nat → Nat} (hc : md_ci σ n kd o1 o2) (hw : sp_wf n kd o1 o2) (hf : f < 6) : ∀ (k : Nat) (E : sp_E) (t : Nat × Nat × Nat × Nat) (o : Nat → Int32) (l3 : Option Value), sp_bd n E → sp_cn n E < k → (∀ o', Q (some (.int 1)) (md_put B (md_wr (md_T σ (t.1, (sp_sat0 n kd o1 o2 k E t.2.1).2, t.2.2) o') n f (sp_sat0 n kd o1 o2 k E t.2.1).1) g)) → ev_R X (d + 4) m_Md_plain 25 [some (.ref B), some (.int (nI f)), some (.int 1), l3] [] (md_put B (md_wr (md_T σ t o) n f E) g) Q := by
  obtain ⟨h1, h0, hn, h4⟩ := id hc
  intro k
  induction k with
  | zero => intro E t o l3 hE hk; omega
  | succ k ih =>
    intro E t o l3 hE hk hQ
    unfold sp_sat0 at hQ
    cases he : E.2 with
    | true =>
      rw [if_pos he] at hQ
      simp (disch := first | exact ev_ok_i _ | exact ev_ok_r _ | exact ev_ok_n | omega | assumption) only [e_Md_plain_25, e_Md_plain_26, e_Md_plain_29, e_Md_plain_30, e_Md_plain_33, e_Md_plain_34, e_Md_plain_35, e_Md_plain_76, e_Md_plain_77, ev_rm_n, ev_rm_i, ev_rm_r, ev_rm_l, ev_ok_n, ev_ok_i, ev_ok_r, Option.toList_some, Option.toList_none, List.cons_append, List.nil_append, true_and, and_true, true_or, or_true, reduceIte, Nat.reduceEqDiff, if_true, if_false, md_rc, md_si_1, md_si_2, md_sa_1, md_sa_2, mg_kind, mr_kind, mw_kind, mg_one, mr_one, mw_one, mg_two, mr_two, mw_two, mg_variables, mp_variables, mg_inputs, mp_inputs, mg_inputOf, mr_inputOf, mw_inputOf, mg_nameSign, mr_nameSign, mw_nameSign, mg_nameSize, mr_nameSize, mw_nameSize, mg_label, mr_label, mw_label, mg_isContrary, mp_isContrary, mg_text, mr_text, mw_text, mg_textSize, mp_textSize, mg_at, mp_at, mg_token, mp_token, mg_tokenAt, mp_tokenAt, mg_tokenSize, mp_tokenSize, mg_scanned, mp_scanned, mg_fault, mp_fault, mg_faultAt, mp_faultAt, mg_place, mp_place, mg_open, mp_open, mg_level, mr_level, mw_level, mg_stage, mr_stage, mw_stage, mg_held, mr_held, mw_held, mg_signPlace, mr_signPlace, mw_signPlace, mg_value, mp_value, mg_row, mr_row, mw_row, mg_contrary, mr_contrary, mw_contrary, mg_firstRow, mr_firstRow, mw_firstRow, mg_firstContrary, mr_firstContrary, mw_firstContrary, mg_depthOf, mr_depthOf, mw_depthOf, mg_phase, mr_phase, mw_phase, mg_tried, mr_tried, mw_tried, mg_before, mr_before, mw_before, mg_old, mr_old, mw_old, mg_steps, mp_steps, mg_mostSteps, mp_mostSteps, mg_rounds, mp_rounds, mg_passes, mp_passes, mg_branches, mp_branches, mg_worth, mr_worth, mw_worth, md_wr_c, he, sp_zb, xo_in, nI_clamp]
      simpa using hQ o
    | false =>
      rw [if_neg (by rw [he]; decide)] at hQ
      have hcl := fun (σ2 : md_S) (h : σ2.1 3 = nI n) (E2 : sp_E) (hE2 : sp_bd n E2) Q => c_classesT (X := X) (d := d + 3) (B := B) (g := g) (Q := Q) (σ := σ2) (f := f) h hn hf hE2
      have hrd := fun Q => c_roundT (X := X) (d := d) (B := B) (g := g) (Q := Q) (t := t) (o := o) hc hw hf hE
      have hE2 := sp_rd_bd hw h0 hE
      simp (disch := first | exact ev_ok_i _ | exact ev_ok_r _ | exact ev_ok_n | omega | assumption) only [e_Md_plain_25, e_Md_plain_26, e_Md_plain_29, e_Md_plain_30, e_Md_plain_33, e_Md_plain_34, e_Md_plain_35, e_Md_plain_38, e_Md_plain_39, e_Md_plain_40, e_Md_plain_43, e_Md_plain_44, e_Md_plain_45, e_Md_plain_46, ev_rm_n, ev_rm_i, ev_rm_r, ev_rm_l, ev_ok_n, ev_ok_i, ev_ok_r, Option.toList_some, Option.toList_none, List.cons_append, List.nil_append, true_and, and_true, true_or, or_true, reduceIte, Nat.reduceEqDiff, if_true, if_false, md_rc, md_si_1, md_si_2, md_sa_1, md_sa_2, mg_kind, mr_kind, mw_kind, mg_one, mr_one, mw_one, mg_two, mr_two, mw_two, mg_variables, mp_variables, mg_inputs, mp_inputs, mg_inputOf, mr_inputOf, mw_inputOf, mg_nameSign, mr_nameSign, mw_nameSign, mg_nameSize, mr_nameSize, mw_nameSize, mg_label, mr_label, mw_label, mg_isContrary, mp_isContrary, mg_text, mr_text, mw_text, mg_textSize, mp_textSize, mg_at, mp_at, mg_token, mp_token, mg_tokenAt, mp_tokenAt, mg_tokenSize, mp_tokenSize, mg_scanned, mp_scanned, mg_fault, mp_fault, mg_faultAt, mp_faultAt, mg_place, mp_place, mg_open, mp_open, mg_level, mr_level, mw_level, mg_stage, mr_stage, mw_stage, mg_held, mr_held, mw_held, mg_signPlace, mr_signPlace, mw_signPlace, mg_value, mp_value, mg_row, mr_row, mw_row, mg_contrary, mr_contrary, mw_contrary, mg_firstRow, mr_firstRow, mw_firstRow, mg_firstContrary, mr_firstContrary, mw_firstContrary, mg_depthOf, mr_depthOf, mw_depthOf, mg_phase, mr_phase, mw_phase, mg_tried, mr_tried, mw_tried, mg_before, mr_before, mw_before, mg_old, mr_old, mw_old, mg_steps, mp_steps, mg_mostSteps, mp_mostSteps, mg_rounds, mp_rounds, mg_passes, mp_passes, mg_branches, mp_branches, mg_worth, mr_worth, mw_worth, md_wr_c, he, sp_zb, xo_in, nI_clamp, hcl _ (show (md_T σ t o).1 3 = nI n from h1) E hE, hrd]
      cases he2 : (sp_rd n kd o1 o2 E).2 with
      | true =>
        rw [if_neg (by rw [he2]; simp)] at hQ
        have hq2 := hQ (fun j => if 0 ≤ j ∧ j < 2 * n then nI (E.1 j) else o j)
        simp (disch := first | exact ev_ok_i _ | exact ev_ok_r _ | exact ev_ok_n | omega | assumption) only [e_Md_plain_49, e_Md_plain_50, e_Md_plain_53, e_Md_plain_54, e_Md_plain_55, e_Md_plain_71, e_Md_plain_72, ev_rm_n, ev_rm_i, ev_rm_r, ev_rm_l, ev_ok_n, ev_ok_i, ev_ok_r, Option.toList_some, Option.toList_none, List.cons_append, List.nil_append, true_and, and_true, true_or, or_true, reduceIte, Nat.reduceEqDiff, if_true, if_false, md_rc, md_si_1, md_si_2, md_sa_1, md_sa_2, mg_kind, mr_kind, mw_kind, mg_one, mr_one, mw_one, mg_two, mr_two, mw_two, mg_variables, mp_variables, mg_inputs, mp_inputs, mg_inputOf, mr_inputOf, mw_inputOf, mg_nameSign, mr_nameSign, mw_nameSign, mg_nameSize, mr_nameSize, mw_nameSize, mg_label, mr_label, mw_label, mg_isContrary, mp_isContrary, mg_text, mr_text, mw_text, mg_textSize, mp_textSize, mg_at, mp_at, mg_token, mp_token, mg_tokenAt, mp_tokenAt, mg_tokenSize, mp_tokenSize, mg_scanned, mp_scanned, mg_fault, mp_fault, mg_faultAt, mp_faultAt, mg_place, mp_place, mg_open, mp_open, mg_level, mr_level, mw_level, mg_stage, mr_stage, mw_stage, mg_held, mr_held, mw_held, mg_signPlace, mr_signPlace, mw_signPlace, mg_value, mp_value, mg_row, mr_row, mw_row, mg_contrary, mr_contrary, mw_contrary, mg_firstRow, mr_firstRow, mw_firstRow, mg_firstContrary, mr_firstContrary, mw_firstContrary, mg_depthOf, mr_depthOf, mw_depthOf, mg_phase, mr_phase, mw_phase, mg_tried, mr_tried, mw_tried, mg_before, mr_before, mw_before, mg_old, mr_old, mw_old, mg_steps, mp_steps, mg_mostSteps, mp_mostSteps, mg_rounds, mp_rounds, mg_passes, mp_passes, mg_branches, mp_branches, mg_worth, mr_worth, mw_worth, md_wr_c, he2, sp_zb, xo_in, nI_clamp]
        rw [e_Md_plain_73]
        simp (disch := first | exact ev_ok_i _ | exact ev_ok_r _ | exact ev_ok_n | omega | assumption) only [e_Md_plain_25, e_Md_plain_26, e_Md_plain_76, e_Md_plain_77, ev_rm_n, ev_rm_i, ev_rm_r, ev_rm_l, ev_ok_n, ev_ok_i, ev_ok_r, Option.toList_some, Option.toList_none, List.cons_append, List.nil_append, true_and, and_true, true_or, or_true, reduceIte, Nat.reduceEqDiff, if_true, if_false]
        simpa using hq2
      | false =>
        have n1 : (1 : Int32) = nI 1 := rfl
        have hb1 := sp_cn_le n E
        have hb2 := sp_cn_le n (sp_rd n kd o1 o2 E)
        simp (disch := first | exact ev_ok_i _ | exact ev_ok_r _ | exact ev_ok_n | omega | assumption) only [e_Md_plain_49, e_Md_plain_50, e_Md_plain_53, e_Md_plain_54, e_Md_plain_55, e_Md_plain_58, e_Md_plain_59, e_Md_plain_60, e_Md_plain_63, e_Md_plain_64, ev_rm_n, ev_rm_i, ev_rm_r, ev_rm_l, ev_ok_n, ev_ok_i, ev_ok_r, Option.toList_some, Option.toList_none, List.cons_append, List.nil_append, true_and, and_true, true_or, or_true, reduceIte, Nat.reduceEqDiff, if_true, if_false, md_rc, md_si_1, md_si_2, md_sa_1, md_sa_2, mg_kind, mr_kind, mw_kind, mg_one, mr_one, mw_one, mg_two, mr_two, mw_two, mg_variables, mp_variables, mg_inputs, mp_inputs, mg_inputOf, mr_inputOf, mw_inputOf, mg_nameSign, mr_nameSign, mw_nameSign, mg_nameSize, mr_nameSize, mw_nameSize, mg_label, mr_label, mw_label, mg_isContrary, mp_isContrary, mg_text, mr_text, mw_text, mg_textSize, mp_textSize, mg_at, mp_at, mg_token, mp_token, mg_tokenAt, mp_tokenAt, mg_tokenSize, mp_tokenSize, mg_scanned, mp_scanned, mg_fault, mp_fault, mg_faultAt, mp_faultAt, mg_place, mp_place, mg_open, mp_open, mg_level, mr_level, mw_level, mg_stage, mr_stage, mw_stage, mg_held, mr_held, mw_held, mg_signPlace, mr_signPlace, mw_signPlace, mg_value, mp_value, mg_row, mr_row, mw_row, mg_contrary, mr_contrary, mw_contrary, mg_firstRow, mr_firstRow, mw_firstRow, mg_firstContrary, mr_firstContrary, mw_firstContrary, mg_depthOf, mr_depthOf, mw_depthOf, mg_phase, mr_phase, mw_phase, mg_tried, mr_tried, mw_tried, mg_before, mr_before, mw_before, mg_old, mr_old, mw_old, mg_steps, mp_steps, mg_mostSteps, mp_mostSteps, mg_rounds, mp_rounds, mg_passes, mp_passes, mg_branches, mp_branches, mg_worth, mr_worth, mw_worth, md_wr_c, he2, sp_zb, xo_in, nI_clamp, hcl _ (show (md_T σ (t.1, t.2.1 + 1, t.2.2) (fun j => if 0 ≤ j ∧ j < 2 * n then nI (E.1 j) else o j)).1 3 = nI n from h1) _ hE2, nI_leI]
        by_cases hlt : sp_cn n (sp_rd n kd o1 o2 E) < sp_cn n E
        · rw [if_pos ⟨he2, hlt⟩] at hQ
          have hnl : ¬ sp_cn n E ≤ sp_cn n (sp_rd n kd o1 o2 E) := by omega
          simp (disch := first | exact ev_ok_i _ | exact ev_ok_r _ | exact ev_ok_n | omega | assumption) only [hnl, e_Md_plain_67, e_Md_plain_68, e_Md_plain_71, e_Md_plain_72, ev_rm_n, ev_rm_i, ev_rm_r, ev_rm_l, ev_ok_n, ev_ok_i, ev_ok_r, Option.toList_some, Option.toList_none, List.cons_append, List.nil_append, true_and, and_true, true_or, or_true, reduceIte, Nat.reduceEqDiff, if_true, if_false]
          simp
          rw [e_Md_plain_73]
          exact ih _ (t.1, t.2.1 + 1, t.2.2) _ _ hE2 (by omega) hQ
        · rw [if_neg (fun z => hlt z.2)] at hQ
          have hnl : sp_cn n E ≤ sp_cn n (sp_rd n kd o1 o2 E) := by omega
          have hq2 := hQ (fun j => if 0 ≤ j ∧ j < 2 * n then nI (E.1 j) else o j)
          simp (disch := first | exact ev_ok_i _ | exact ev_ok_r _ | exact ev_ok_n | omega | assumption) only [hnl, e_Md_plain_71, e_Md_plain_72, ev_rm_n, ev_rm_i, ev_rm_r, ev_rm_l, ev_ok_n, ev_ok_i, ev_ok_r, Option.toList_some, Option.toList_none, List.cons_append, List.nil_append, true_and, and_true, true_or, or_true, reduceIte, Nat.reduceEqDiff, if_true, if_false]
          simp
          rw [e_Md_plain_73]
          simp (disch := first | exact ev_ok_i _ | exact ev_ok_r _ | exact ev_ok_n | omega | assumption) only [e_Md_plain_25, e_Md_plain_26, e_Md_plain_76, e_Md_plain_77, ev_rm_n, ev_rm_i, ev_rm_r, ev_rm_l, ev_ok_n, ev_ok_i, ev_ok_r, Option.toList_some, Option.toList_none, List.cons_append, List.nil_append, true_and, and_true, true_or, or_true, reduceIte, Nat.reduceEqDiff, if_true, if_false]
          simpa using hq2
/-- a step: SPENT, or ROUNDS -/
theorem c_plain {n f : Nat} {kd o1 o2 : Nat → Nat} (hc : md_ci σ n kd o1 o2) (hw : sp_wf n kd o1 o2) (hf : f < 6) {t : Nat × Nat × Nat × Nat} {o : Nat → Int32} {E : sp_E} {ms : Nat} (hm : σ.1 36 = nI ms) (hms : ms < 2 ^ 31) (hts : t.1 < 2 ^ 31) (hE : sp_bd n E) (hS : t.1 = ms → Q (some (.int 0)) (md_put B (md_wr (md_T σ t o) n f E) g)) (hG : ¬ t.1 = ms → ∀ o', Q (some (.int 1)) (md_put B (md_wr (md_T σ (t.1 + 1, (sp_sat0 n kd o1 o2 (2 * n + 1) E t.2.1).2, t.2.2) o') n f (sp_sat0 n kd o1 o2 (2 * n + 1) E t.2.1).1) g)) : ev_C X (d + 4) m_Md_plain [.ref B, .int (nI f)] (md_put B (md_wr (md_T σ t o) n f E) g) Q := by
  show ev_R X (d + 4) m_Md_plain 0 [some (.ref B), some (.int (nI f)), none, none] [] (md_put B (md_wr (md_T σ t o) n f E) g) Q
  have k35 : (md_T σ t o).1 35 = nI t.1 := rfl
  have k36 : (md_T σ t o).1 36 = nI ms := hm
  by_cases h : t.1 = ms
  · simp (disch := first | exact ev_ok_i _ | exact ev_ok_r _ | exact ev_ok_n | omega | assumption) only [e_Md_plain_0, e_Md_plain_1, e_Md_plain_4, e_Md_plain_5, e_Md_plain_8, e_Md_plain_11, e_Md_plain_12, ev_rm_n, ev_rm_i, ev_rm_r, ev_rm_l, ev_ok_n, ev_ok_i, ev_ok_r, Option.toList_some, Option.toList_none, List.cons_append, List.nil_append, true_and, and_true, true_or, or_true, reduceIte, Nat.reduceEqDiff, if_true, if_false, md_rc, md_si_1, md_si_2, md_sa_1, md_sa_2, mg_kind, mr_kind, mw_kind, mg_one, mr_one, mw_one, mg_two, mr_two, mw_two, mg_variables, mp_variables, mg_inputs, mp_inputs, mg_inputOf, mr_inputOf, mw_inputOf, mg_nameSign, mr_nameSign, mw_nameSign, mg_nameSize, mr_nameSize, mw_nameSize, mg_label, mr_label, mw_label, mg_isContrary, mp_isContrary, mg_text, mr_text, mw_text, mg_textSize, mp_textSize, mg_at, mp_at, mg_token, mp_token, mg_tokenAt, mp_tokenAt, mg_tokenSize, mp_tokenSize, mg_scanned, mp_scanned, mg_fault, mp_fault, mg_faultAt, mp_faultAt, mg_place, mp_place, mg_open, mp_open, mg_level, mr_level, mw_level, mg_stage, mr_stage, mw_stage, mg_held, mr_held, mw_held, mg_signPlace, mr_signPlace, mw_signPlace, mg_value, mp_value, mg_row, mr_row, mw_row, mg_contrary, mr_contrary, mw_contrary, mg_firstRow, mr_firstRow, mw_firstRow, mg_firstContrary, mr_firstContrary, mw_firstContrary, mg_depthOf, mr_depthOf, mw_depthOf, mg_phase, mr_phase, mw_phase, mg_tried, mr_tried, mw_tried, mg_before, mr_before, mw_before, mg_old, mr_old, mw_old, mg_steps, mp_steps, mg_mostSteps, mp_mostSteps, mg_rounds, mp_rounds, mg_passes, mp_passes, mg_branches, mp_branches, mg_worth, mr_worth, mw_worth, md_wr_1, k35, k36, nI_eq, h]
    simpa using hS h
  · simp (disch := first | exact ev_ok_i _ | exact ev_ok_r _ | exact ev_ok_n | omega | assumption) only [e_Md_plain_0, e_Md_plain_1, e_Md_plain_4, e_Md_plain_5, e_Md_plain_8, e_Md_plain_11, e_Md_plain_12, e_Md_plain_13, e_Md_plain_14, e_Md_plain_15, e_Md_plain_18, e_Md_plain_19, e_Md_plain_20, e_Md_plain_23, e_Md_plain_24, ev_rm_n, ev_rm_i, ev_rm_r, ev_rm_l, ev_ok_n, ev_ok_i, ev_ok_r, Option.toList_some, Option.toList_none, List.cons_append, List.nil_append, true_and, and_true, true_or, or_true, reduceIte, Nat.reduceEqDiff, if_true, if_false, md_rc, md_si_1, md_si_2, md_sa_1, md_sa_2, mg_kind, mr_kind, mw_kind, mg_one, mr_one, mw_one, mg_two, mr_two, mw_two, mg_variables, mp_variables, mg_inputs, mp_inputs, mg_inputOf, mr_inputOf, mw_inputOf, mg_nameSign, mr_nameSign, mw_nameSign, mg_nameSize, mr_nameSize, mw_nameSize, mg_label, mr_label, mw_label, mg_isContrary, mp_isContrary, mg_text, mr_text, mw_text, mg_textSize, mp_textSize, mg_at, mp_at, mg_token, mp_token, mg_tokenAt, mp_tokenAt, mg_tokenSize, mp_tokenSize, mg_scanned, mp_scanned, mg_fault, mp_fault, mg_faultAt, mp_faultAt, mg_place, mp_place, mg_open, mp_open, mg_level, mr_level, mw_level, mg_stage, mr_stage, mw_stage, mg_held, mr_held, mw_held, mg_signPlace, mr_signPlace, mw_signPlace, mg_value, mp_value, mg_row, mr_row, mw_row, mg_contrary, mr_contrary, mw_contrary, mg_firstRow, mr_firstRow, mw_firstRow, mg_firstContrary, mr_firstContrary, mw_firstContrary, mg_depthOf, mr_depthOf, mw_depthOf, mg_phase, mr_phase, mw_phase, mg_tried, mr_tried, mw_tried, mg_before, mr_before, mw_before, mg_old, mr_old, mw_old, mg_steps, mp_steps, mg_mostSteps, mp_mostSteps, mg_rounds, mp_rounds, mg_passes, mp_passes, mg_branches, mp_branches, mg_worth, mr_worth, mw_worth, md_wr_1, k35, k36, nI_eq, h, nI_1, md_si_wr, md_T_s]
    simp only [not_false_eq_true, if_true]
    exact c_plain_loop hc hw hf (2 * n + 1) E (t.1 + 1, t.2) o none hE (by have := sp_cn_le n E; omega) (hG h)
end M6
