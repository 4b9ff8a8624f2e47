/-! equivalences: the common joins; copies, growth, separation -/
theorem cl_eo_ne {j k : Nat} (hj : j ∈ cl_eo) (hk : k ∈ cl_eo) (h : ¬ k = j) : ¬ cl_J j k ∧ ¬ cl_J j (k + 1) := by
  have a := (cl_eo_lt hj).2.2.1
  have b := (cl_eo_lt hk).2.2.1
  refine ⟨fun z => z.elim h (fun z => a (z ▸ hk)), fun z => z.elim (fun z => b (z ▸ hj)) (fun z => h (by omega))⟩
theorem sp_ct_add (p : Nat → Bool) : ∀ m v, sp_ct p v (m + 1) = sp_ct p v m + (if p (v + m) then 1 else 0) := by
  intro m
  induction m with
  | zero => intro v; simp [sp_ct]
  | succ m ih =>
    intro v
    rw [sp_ct, ih (v + 1), sp_ct]
    rw [show v + 1 + m = v + (m + 1) by omega]
    omega
theorem sp_cn_grow {n m : Nat} (E : sp_E) (h : n ≤ m) : sp_cn (m + 1) (sp_grow E n) = sp_cn m (sp_grow E n) + 2 := by
  unfold sp_cn
  rw [show 2 * (m + 1) = 2 * m + 1 + 1 by omega, sp_ct_add, sp_ct_add]
  have e1 : (sp_grow E n).1 (0 + 2 * m) = 0 + 2 * m := by
    show (if 0 + 2 * m < 2 * n then E.1 (0 + 2 * m) else 0 + 2 * m) = _
    rw [if_neg (by omega)]
  have e2 : (sp_grow E n).1 (0 + (2 * m + 1)) = 0 + (2 * m + 1) := by
    show (if 0 + (2 * m + 1) < 2 * n then E.1 (0 + (2 * m + 1)) else 0 + (2 * m + 1)) = _
    rw [if_neg (by omega)]
  rw [e1, e2]
  simp
theorem sp_grow_eq (E : sp_E) (n : Nat) : sp_eq n E (sp_grow E n) := ⟨rfl, fun _ l hl => by
  show E.1 l = if l < 2 * n then E.1 l else l
  rw [if_pos hl]⟩
theorem sp_grow_id (n : Nat) : sp_eq n (sp_grow sp_id 0) sp_id := ⟨rfl, fun _ l hl => by
  show (if l < 2 * 0 then l else l) = l
  split <;> rfl⟩
section CQ2
variable {X : xo_X} {d B : Nat} {τ : cl_S} {g : xo_G} {Q : Option Value → xo_G → Prop} {j n : Nat}
theorem c_uw_loop {k1 k2 v : Nat} {E1 E2 : sp_E} (hj : j ∈ cl_eo) (hk1 : k1 ∈ cl_eo) (hk2 : k2 ∈ cl_eo) (d1 : ¬ k1 = j) (d2 : ¬ k2 = j) (hn : n ≤ 120) (hvn : v < n) (h1 : sp_va n E1) (h2 : sp_va n E2) (z1 : E1.2 = false) (z2 : E2.2 = false) : ∀ (m w : Nat) (F : sp_E) (τ : cl_S) (l5 : Option Value), w + m = v → cl_E τ j n F → cs_I n E1 E2 F → cl_E τ k1 n E1 → cl_E τ k2 n E2 → (∀ τ2, cl_E τ2 j n (cs_uw E1 E2 v m w F) → cl_ke (cl_J j) τ τ2 → Q none (cl_put B τ2 g)) → ev_R X (d + 2) m_Eq_uniteWithLesser 3 [some (.ref (B + j)), some (.int (nI v)), some (.ref (B + k1)), some (.ref (B + k2)), some (.int (nI w)), l5] [] (cl_put B τ g) Q := by
  intro m
  induction m with
  | zero =>
    intro w F τ l5 hw hF hI r1 r2 hQ
    have e : w = v := by omega
    subst e
    simp (disch := first | exact ev_ok_i _ | exact ev_ok_r _ | exact ev_ok_n | omega | assumption) only [e_Eq_uniteWithLesser_3, e_Eq_uniteWithLesser_5, e_Eq_uniteWithLesser_6, e_Eq_uniteWithLesser_78, ev_rm_n, ev_rm_i, ev_rm_r, ev_rm_l, ev_ok_n, ev_ok_i, ev_ok_r, Option.toList_some, Option.toList_none, List.cons_append, List.nil_append, true_and, and_true, true_or, or_true, reduceIte, Nat.reduceEqDiff, if_true, if_false, nI_leI, Nat.le_refl]
    exact hQ τ hF (cl_ke_rf _ _)
  | succ m ih =>
    intro w F τ l5 hw hF hI r1 r2 hQ
    have hlt : ¬ v ≤ w := by omega
    have f1 := (hF.2.2 hI.1.2).2 v hvn
    have fl : F.1 (2 * v) < 240 := by have := (hI.1.1 (2 * v) (by omega)).1; omega
    have hv120 : v < 120 := by omega
    have a1 := (r1.2.2 z1).2 v hvn
    have a2 := (r1.2.2 z1).2 w (by omega)
    have b1 := (r2.2.2 z2).2 v hvn
    have b2 := (r2.2.2 z2).2 w (by omega)
    have la1 : E1.1 (2 * v) < 240 := by have := (h1 (2 * v) (by omega)).1; omega
    have la2 : E1.1 (2 * w) < 240 := by have := (h1 (2 * w) (by omega)).1; omega
    have lb1 : E2.1 (2 * v) < 240 := by have := (h2 (2 * v) (by omega)).1; omega
    have lb2 : E2.1 (2 * w) < 240 := by have := (h2 (2 * w) (by omega)).1; omega
    have t1 := cs_lt8 la1 la2
    have t2 := cs_lt8 lb1 lb2
    unfold cs_uw at hQ
    simp (disch := first | exact ev_ok_i _ | exact ev_ok_r _ | exact ev_ok_n | omega | assumption) only [e_Eq_uniteWithLesser_3, e_Eq_uniteWithLesser_5, e_Eq_uniteWithLesser_6, e_Eq_uniteWithLesser_9, e_Eq_uniteWithLesser_10, e_Eq_uniteWithLesser_11, e_Eq_uniteWithLesser_14, ev_rm_n, ev_rm_i, ev_rm_r, ev_rm_l, ev_ok_n, ev_ok_i, ev_ok_r, Option.toList_some, Option.toList_none, List.cons_append, List.nil_append, true_and, and_true, true_or, or_true, reduceIte, Nat.reduceEqDiff, if_true, if_false, cg_Dp_rc, cg_Dp_text, cg_Dp_circuit, cg_Dp_reader, cg_Dp_current, cg_Dp_working, cg_Dp_saturator, cg_Dp_table, cg_Te_rc, cg_Te_bytes, cg_Te_length, cp_Te_length, cg_Ci_rc, cg_Ci_kinds, cg_Ci_firsts, cg_Ci_seconds, cg_Ci_inputVariables, cg_Ci_names, cg_Ci_nameLengths, cg_Ci_size, cp_Ci_size, cg_Ci_inputs, cp_Ci_inputs, cg_Re_rc, cg_Re_text, cg_Re_circuit, cg_Re_token, cp_Re_token, cg_Re_start, cp_Re_start, cg_Re_next, cp_Re_next, cg_Re_open, cp_Re_open, cg_Re_fault, cp_Re_fault, cg_Re_faultPlace, cp_Re_faultPlace, cg_Sa_rc, cg_Sa_circuit, cg_Sa_before, cg_Sa_trueBranches, cg_Sa_falseBranches, cg_Sa_tallies, cg_Sa_mostSteps, cp_Sa_mostSteps, cg_Sa_spent, cp_Sa_spent, cg_Ta_rc, cg_Ta_circuit, cg_Ta_words, cr_kinds, cw_kinds, cr_firsts, cw_firsts, cr_seconds, cw_seconds, cr_inputVariables, cw_inputVariables, cr_nameLengths, cw_nameLengths, cr_tallies, cw_tallies, cr_bytes, cw_bytes, cr_words, cw_words, cl_tallies, cr_names, cr_trueB, cr_falseB, cr_name, cw_name, cq_rc, cq_st, cq_size, cq_classes, cq_contradiction, cqp_size, cqp_classes, cqp_contradiction, cq_rd, cq_wr, cq_copy, cl_s_1, cl_s_2, cl_ar_1, cl_ar_2, cl_w_1, cl_w_2, nI_leI, hlt, c_isLeast, f1, nI_eq]
    by_cases c : F.1 (2 * v) = 2 * v
    · rw [if_neg (fun z => z c)] at hQ
      have i10 : ¬ (1 : Int32) = 0 := by decide
      simp (disch := first | exact ev_ok_i _ | exact ev_ok_r _ | exact ev_ok_n | omega | assumption) only [c, if_true, i10, if_false, e_Eq_uniteWithLesser_17, e_Eq_uniteWithLesser_18, e_Eq_uniteWithLesser_21, e_Eq_uniteWithLesser_22, e_Eq_uniteWithLesser_23, e_Eq_uniteWithLesser_24, e_Eq_uniteWithLesser_27, e_Eq_uniteWithLesser_29, e_Eq_uniteWithLesser_30, e_Eq_uniteWithLesser_31, e_Eq_uniteWithLesser_33, e_Eq_uniteWithLesser_35, e_Eq_uniteWithLesser_36, ev_rm_n, ev_rm_i, ev_rm_r, ev_rm_l, ev_ok_n, ev_ok_i, ev_ok_r, Option.toList_some, Option.toList_none, List.cons_append, List.nil_append, true_and, and_true, true_or, or_true, reduceIte, Nat.reduceEqDiff, if_true, if_false, cg_Dp_rc, cg_Dp_text, cg_Dp_circuit, cg_Dp_reader, cg_Dp_current, cg_Dp_working, cg_Dp_saturator, cg_Dp_table, cg_Te_rc, cg_Te_bytes, cg_Te_length, cp_Te_length, cg_Ci_rc, cg_Ci_kinds, cg_Ci_firsts, cg_Ci_seconds, cg_Ci_inputVariables, cg_Ci_names, cg_Ci_nameLengths, cg_Ci_size, cp_Ci_size, cg_Ci_inputs, cp_Ci_inputs, cg_Re_rc, cg_Re_text, cg_Re_circuit, cg_Re_token, cp_Re_token, cg_Re_start, cp_Re_start, cg_Re_next, cp_Re_next, cg_Re_open, cp_Re_open, cg_Re_fault, cp_Re_fault, cg_Re_faultPlace, cp_Re_faultPlace, cg_Sa_rc, cg_Sa_circuit, cg_Sa_before, cg_Sa_trueBranches, cg_Sa_falseBranches, cg_Sa_tallies, cg_Sa_mostSteps, cp_Sa_mostSteps, cg_Sa_spent, cp_Sa_spent, cg_Ta_rc, cg_Ta_circuit, cg_Ta_words, cr_kinds, cw_kinds, cr_firsts, cw_firsts, cr_seconds, cw_seconds, cr_inputVariables, cw_inputVariables, cr_nameLengths, cw_nameLengths, cr_tallies, cw_tallies, cr_bytes, cw_bytes, cr_words, cw_words, cl_tallies, cr_names, cr_trueB, cr_falseB, cr_name, cw_name, cq_rc, cq_st, cq_size, cq_classes, cq_contradiction, cqp_size, cqp_classes, cqp_contradiction, cq_rd, cq_wr, cq_copy, cl_s_1, cl_s_2, cl_ar_1, cl_ar_2, cl_w_1, cl_w_2, xo_in, nI_clamp, a1, a2, nL_x, nC_1]
      by_cases c1 : E1.1 (2 * v) ^^^ E1.1 (2 * w) ≤ 1
      · have c1' : ¬ 1 < E1.1 (2 * v) ^^^ E1.1 (2 * w) := by omega
        simp (disch := first | exact ev_ok_i _ | exact ev_ok_r _ | exact ev_ok_n | omega | assumption) only [c1', if_false, e_Eq_uniteWithLesser_39, e_Eq_uniteWithLesser_41, e_Eq_uniteWithLesser_42, e_Eq_uniteWithLesser_45, e_Eq_uniteWithLesser_46, e_Eq_uniteWithLesser_47, e_Eq_uniteWithLesser_48, e_Eq_uniteWithLesser_51, e_Eq_uniteWithLesser_53, e_Eq_uniteWithLesser_54, e_Eq_uniteWithLesser_55, ev_rm_n, ev_rm_i, ev_rm_r, ev_rm_l, ev_ok_n, ev_ok_i, ev_ok_r, Option.toList_some, Option.toList_none, List.cons_append, List.nil_append, true_and, and_true, true_or, or_true, reduceIte, Nat.reduceEqDiff, if_true, if_false, cg_Dp_rc, cg_Dp_text, cg_Dp_circuit, cg_Dp_reader, cg_Dp_current, cg_Dp_working, cg_Dp_saturator, cg_Dp_table, cg_Te_rc, cg_Te_bytes, cg_Te_length, cp_Te_length, cg_Ci_rc, cg_Ci_kinds, cg_Ci_firsts, cg_Ci_seconds, cg_Ci_inputVariables, cg_Ci_names, cg_Ci_nameLengths, cg_Ci_size, cp_Ci_size, cg_Ci_inputs, cp_Ci_inputs, cg_Re_rc, cg_Re_text, cg_Re_circuit, cg_Re_token, cp_Re_token, cg_Re_start, cp_Re_start, cg_Re_next, cp_Re_next, cg_Re_open, cp_Re_open, cg_Re_fault, cp_Re_fault, cg_Re_faultPlace, cp_Re_faultPlace, cg_Sa_rc, cg_Sa_circuit, cg_Sa_before, cg_Sa_trueBranches, cg_Sa_falseBranches, cg_Sa_tallies, cg_Sa_mostSteps, cp_Sa_mostSteps, cg_Sa_spent, cp_Sa_spent, cg_Ta_rc, cg_Ta_circuit, cg_Ta_words, cr_kinds, cw_kinds, cr_firsts, cw_firsts, cr_seconds, cw_seconds, cr_inputVariables, cw_inputVariables, cr_nameLengths, cw_nameLengths, cr_tallies, cw_tallies, cr_bytes, cw_bytes, cr_words, cw_words, cl_tallies, cr_names, cr_trueB, cr_falseB, cr_name, cw_name, cq_rc, cq_st, cq_size, cq_classes, cq_contradiction, cqp_size, cqp_classes, cqp_contradiction, cq_rd, cq_wr, cq_copy, cl_s_1, cl_s_2, cl_ar_1, cl_ar_2, cl_w_1, cl_w_2, xo_in, nI_clamp, b1, b2, nL_x, nI_eq]
        by_cases c2 : E1.1 (2 * v) ^^^ E1.1 (2 * w) = E2.1 (2 * v) ^^^ E2.1 (2 * w)
        · rw [if_pos ⟨c1, c2⟩] at hQ
          have cc : cs_c E1 E2 v w := ⟨c1, c2⟩
          have k := (cs_c_s h1 h2 hI hvn (by omega) cc).1
          simp (disch := first | exact ev_ok_i _ | exact ev_ok_r _ | exact ev_ok_n | omega | assumption) only [c2.symm, not_true_eq_false, if_false, e_Eq_uniteWithLesser_58, e_Eq_uniteWithLesser_59, e_Eq_uniteWithLesser_60, e_Eq_uniteWithLesser_61, e_Eq_uniteWithLesser_62, e_Eq_uniteWithLesser_63, e_Eq_uniteWithLesser_65, e_Eq_uniteWithLesser_66, e_Eq_uniteWithLesser_68, e_Eq_uniteWithLesser_69, ev_rm_n, ev_rm_i, ev_rm_r, ev_rm_l, ev_ok_n, ev_ok_i, ev_ok_r, Option.toList_some, Option.toList_none, List.cons_append, List.nil_append, true_and, and_true, true_or, or_true, reduceIte, Nat.reduceEqDiff, if_true, if_false, cg_Dp_rc, cg_Dp_text, cg_Dp_circuit, cg_Dp_reader, cg_Dp_current, cg_Dp_working, cg_Dp_saturator, cg_Dp_table, cg_Te_rc, cg_Te_bytes, cg_Te_length, cp_Te_length, cg_Ci_rc, cg_Ci_kinds, cg_Ci_firsts, cg_Ci_seconds, cg_Ci_inputVariables, cg_Ci_names, cg_Ci_nameLengths, cg_Ci_size, cp_Ci_size, cg_Ci_inputs, cp_Ci_inputs, cg_Re_rc, cg_Re_text, cg_Re_circuit, cg_Re_token, cp_Re_token, cg_Re_start, cp_Re_start, cg_Re_next, cp_Re_next, cg_Re_open, cp_Re_open, cg_Re_fault, cp_Re_fault, cg_Re_faultPlace, cp_Re_faultPlace, cg_Sa_rc, cg_Sa_circuit, cg_Sa_before, cg_Sa_trueBranches, cg_Sa_falseBranches, cg_Sa_tallies, cg_Sa_mostSteps, cp_Sa_mostSteps, cg_Sa_spent, cp_Sa_spent, cg_Ta_rc, cg_Ta_circuit, cg_Ta_words, cr_kinds, cw_kinds, cr_firsts, cw_firsts, cr_seconds, cw_seconds, cr_inputVariables, cw_inputVariables, cr_nameLengths, cw_nameLengths, cr_tallies, cw_tallies, cr_bytes, cw_bytes, cr_words, cw_words, cl_tallies, cr_names, cr_trueB, cr_falseB, cr_name, cw_name, cq_rc, cq_st, cq_size, cq_classes, cq_contradiction, cqp_size, cqp_classes, cqp_contradiction, cq_rd, cq_wr, cq_copy, cl_s_1, cl_s_2, cl_ar_1, cl_ar_2, cl_w_1, cl_w_2, nL_2, nI_add]
          refine c_unite hj hn hF hI.1.1 (by omega) (by omega) (fun τ2 q1 q2 => ?_)
          simp (disch := first | exact ev_ok_i _ | exact ev_ok_r _ | exact ev_ok_n | omega | assumption) only [e_Eq_uniteWithLesser_72, e_Eq_uniteWithLesser_75, ev_rm_n, ev_rm_i, ev_rm_r, ev_rm_l, ev_ok_n, ev_ok_i, ev_ok_r, Option.toList_some, Option.toList_none, List.cons_append, List.nil_append, true_and, and_true, true_or, or_true, reduceIte, Nat.reduceEqDiff, if_true, if_false, nI_1]
          have n1 := cl_eo_ne hj hk1 d1
          have n2 := cl_eo_ne hj hk2 d2
          exact ih (w + 1) _ τ2 _ (by omega) q1 k (cl_E_ke q2 n1.1 n1.2 r1) (cl_E_ke q2 n2.1 n2.2 r2) (fun τ3 p1 p2 => hQ τ3 p1 (cl_ke_tr q2 p2))
        · rw [if_neg (fun z => c2 z.2)] at hQ
          simp (disch := first | exact ev_ok_i _ | exact ev_ok_r _ | exact ev_ok_n | omega | assumption) only [c2, not_false_eq_true, if_true, e_Eq_uniteWithLesser_72, e_Eq_uniteWithLesser_75, ev_rm_n, ev_rm_i, ev_rm_r, ev_rm_l, ev_ok_n, ev_ok_i, ev_ok_r, Option.toList_some, Option.toList_none, List.cons_append, List.nil_append, true_and, and_true, true_or, or_true, reduceIte, Nat.reduceEqDiff, if_true, if_false, nI_1]
          exact ih (w + 1) F τ _ (by omega) hF hI r1 r2 hQ
      · rw [if_neg (fun z => c1 z.1)] at hQ
        have c1' : 1 < E1.1 (2 * v) ^^^ E1.1 (2 * w) := by omega
        simp (disch := first | exact ev_ok_i _ | exact ev_ok_r _ | exact ev_ok_n | omega | assumption) only [c1', if_true, e_Eq_uniteWithLesser_72, e_Eq_uniteWithLesser_75, ev_rm_n, ev_rm_i, ev_rm_r, ev_rm_l, ev_ok_n, ev_ok_i, ev_ok_r, Option.toList_some, Option.toList_none, List.cons_append, List.nil_append, true_and, and_true, true_or, or_true, reduceIte, Nat.reduceEqDiff, if_true, if_false, nI_1]
        exact ih (w + 1) F τ _ (by omega) hF hI r1 r2 hQ
    · rw [if_pos c] at hQ
      simp (disch := first | exact ev_ok_i _ | exact ev_ok_r _ | exact ev_ok_n | omega | assumption) only [c, if_false, e_Eq_uniteWithLesser_78, ev_rm_n, ev_rm_i, ev_rm_r, ev_rm_l, ev_ok_n, ev_ok_i, ev_ok_r, Option.toList_some, Option.toList_none, List.cons_append, List.nil_append, true_and, and_true, true_or, or_true, reduceIte, Nat.reduceEqDiff, if_true, if_false]
      exact hQ τ hF (cl_ke_rf _ _)
theorem c_uc_loop {k1 k2 : Nat} {E1 E2 : sp_E} (hj : j ∈ cl_eo) (hk1 : k1 ∈ cl_eo) (hk2 : k2 ∈ cl_eo) (d1 : ¬ k1 = j) (d2 : ¬ k2 = j) (hn : n ≤ 120) (h1 : sp_va n E1) (h2 : sp_va n E2) (z1 : E1.2 = false) (z2 : E2.2 = false) : ∀ (m v : Nat) (F : sp_E) (τ : cl_S), v + m = n → cl_E τ j n F → cs_I n E1 E2 F → cl_E τ k1 n E1 → cl_E τ k2 n E2 → (∀ τ2, cl_E τ2 j n (cs_uc E1 E2 m v F) → cl_ke (cl_J j) τ τ2 → Q none (cl_put B τ2 g)) → ev_R X (d + 3) m_Eq_uniteCommon 2 [some (.ref (B + j)), some (.ref (B + k1)), some (.ref (B + k2)), some (.int (nI v))] [] (cl_put B τ g) Q := by
  intro m
  induction m with
  | zero =>
    intro v F τ hv hF hI r1 r2 hQ
    have e : v = n := by omega
    subst e
    simp (disch := first | exact ev_ok_i _ | exact ev_ok_r _ | exact ev_ok_n | omega | assumption) only [e_Eq_uniteCommon_2, e_Eq_uniteCommon_3, e_Eq_uniteCommon_4, e_Eq_uniteCommon_7, e_Eq_uniteCommon_39, ev_rm_n, ev_rm_i, ev_rm_r, ev_rm_l, ev_ok_n, ev_ok_i, ev_ok_r, Option.toList_some, Option.toList_none, List.cons_append, List.nil_append, true_and, and_true, true_or, or_true, reduceIte, Nat.reduceEqDiff, if_true, if_false, cg_Dp_rc, cg_Dp_text, cg_Dp_circuit, cg_Dp_reader, cg_Dp_current, cg_Dp_working, cg_Dp_saturator, cg_Dp_table, cg_Te_rc, cg_Te_bytes, cg_Te_length, cp_Te_length, cg_Ci_rc, cg_Ci_kinds, cg_Ci_firsts, cg_Ci_seconds, cg_Ci_inputVariables, cg_Ci_names, cg_Ci_nameLengths, cg_Ci_size, cp_Ci_size, cg_Ci_inputs, cp_Ci_inputs, cg_Re_rc, cg_Re_text, cg_Re_circuit, cg_Re_token, cp_Re_token, cg_Re_start, cp_Re_start, cg_Re_next, cp_Re_next, cg_Re_open, cp_Re_open, cg_Re_fault, cp_Re_fault, cg_Re_faultPlace, cp_Re_faultPlace, cg_Sa_rc, cg_Sa_circuit, cg_Sa_before, cg_Sa_trueBranches, cg_Sa_falseBranches, cg_Sa_tallies, cg_Sa_mostSteps, cp_Sa_mostSteps, cg_Sa_spent, cp_Sa_spent, cg_Ta_rc, cg_Ta_circuit, cg_Ta_words, cr_kinds, cw_kinds, cr_firsts, cw_firsts, cr_seconds, cw_seconds, cr_inputVariables, cw_inputVariables, cr_nameLengths, cw_nameLengths, cr_tallies, cw_tallies, cr_bytes, cw_bytes, cr_words, cw_words, cl_tallies, cr_names, cr_trueB, cr_falseB, cr_name, cw_name, cq_rc, cq_st, cq_size, cq_classes, cq_contradiction, cqp_size, cqp_classes, cqp_contradiction, cq_rd, cq_wr, cq_copy, cl_s_1, cl_s_2, cl_ar_1, cl_ar_2, cl_w_1, cl_w_2, hF.1, nI_leI, Nat.le_refl]
    exact hQ τ hF (cl_ke_rf _ _)
  | succ m ih =>
    intro v F τ hv hF hI r1 r2 hQ
    have hlt : ¬ n ≤ v := by omega
    have hv120 : v < 120 := by omega
    have a1 := (r1.2.2 z1).2 v (by omega)
    have b1 := (r2.2.2 z2).2 v (by omega)
    have la1 : E1.1 (2 * v) < 240 := by have := (h1 (2 * v) (by omega)).1; omega
    have lb1 : E2.1 (2 * v) < 240 := by have := (h2 (2 * v) (by omega)).1; omega
    have i10 : ¬ (1 : Int32) = 0 := by decide
    unfold cs_uc at hQ
    simp (disch := first | exact ev_ok_i _ | exact ev_ok_r _ | exact ev_ok_n | omega | assumption) only [e_Eq_uniteCommon_2, e_Eq_uniteCommon_3, e_Eq_uniteCommon_4, e_Eq_uniteCommon_7, e_Eq_uniteCommon_10, e_Eq_uniteCommon_11, e_Eq_uniteCommon_12, e_Eq_uniteCommon_15, ev_rm_n, ev_rm_i, ev_rm_r, ev_rm_l, ev_ok_n, ev_ok_i, ev_ok_r, Option.toList_some, Option.toList_none, List.cons_append, List.nil_append, true_and, and_true, true_or, or_true, reduceIte, Nat.reduceEqDiff, if_true, if_false, cg_Dp_rc, cg_Dp_text, cg_Dp_circuit, cg_Dp_reader, cg_Dp_current, cg_Dp_working, cg_Dp_saturator, cg_Dp_table, cg_Te_rc, cg_Te_bytes, cg_Te_length, cp_Te_length, cg_Ci_rc, cg_Ci_kinds, cg_Ci_firsts, cg_Ci_seconds, cg_Ci_inputVariables, cg_Ci_names, cg_Ci_nameLengths, cg_Ci_size, cp_Ci_size, cg_Ci_inputs, cp_Ci_inputs, cg_Re_rc, cg_Re_text, cg_Re_circuit, cg_Re_token, cp_Re_token, cg_Re_start, cp_Re_start, cg_Re_next, cp_Re_next, cg_Re_open, cp_Re_open, cg_Re_fault, cp_Re_fault, cg_Re_faultPlace, cp_Re_faultPlace, cg_Sa_rc, cg_Sa_circuit, cg_Sa_before, cg_Sa_trueBranches, cg_Sa_falseBranches, cg_Sa_tallies, cg_Sa_mostSteps, cp_Sa_mostSteps, cg_Sa_spent, cp_Sa_spent, cg_Ta_rc, cg_Ta_circuit, cg_Ta_words, cr_kinds, cw_kinds, cr_firsts, cw_firsts, cr_seconds, cw_seconds, cr_inputVariables, cw_inputVariables, cr_nameLengths, cw_nameLengths, cr_tallies, cw_tallies, cr_bytes, cw_bytes, cr_words, cw_words, cl_tallies, cr_names, cr_trueB, cr_falseB, cr_name, cw_name, cq_rc, cq_st, cq_size, cq_classes, cq_contradiction, cqp_size, cqp_classes, cqp_contradiction, cq_rd, cq_wr, cq_copy, cl_s_1, cl_s_2, cl_ar_1, cl_ar_2, cl_w_1, cl_w_2, hF.1, nI_leI, hlt, c_isLeast, a1, nI_eq]
    by_cases c1 : E1.1 (2 * v) = 2 * v
    · rw [if_neg (fun z => z.1 c1)] at hQ
      simp (disch := first | exact ev_ok_i _ | exact ev_ok_r _ | exact ev_ok_n | omega | assumption) only [c1, if_true, i10, not_false_eq_true, e_Eq_uniteCommon_33, e_Eq_uniteCommon_36, ev_rm_n, ev_rm_i, ev_rm_r, ev_rm_l, ev_ok_n, ev_ok_i, ev_ok_r, Option.toList_some, Option.toList_none, List.cons_append, List.nil_append, true_and, and_true, true_or, or_true, reduceIte, Nat.reduceEqDiff, if_true, if_false, nI_1]
      exact ih (v + 1) F τ (by omega) hF hI r1 r2 hQ
    · simp (disch := first | exact ev_ok_i _ | exact ev_ok_r _ | exact ev_ok_n | omega | assumption) only [c1, if_false, not_true_eq_false, e_Eq_uniteCommon_18, e_Eq_uniteCommon_19, e_Eq_uniteCommon_20, e_Eq_uniteCommon_23, ev_rm_n, ev_rm_i, ev_rm_r, ev_rm_l, ev_ok_n, ev_ok_i, ev_ok_r, Option.toList_some, Option.toList_none, List.cons_append, List.nil_append, true_and, and_true, true_or, or_true, reduceIte, Nat.reduceEqDiff, if_true, if_false, cg_Dp_rc, cg_Dp_text, cg_Dp_circuit, cg_Dp_reader, cg_Dp_current, cg_Dp_working, cg_Dp_saturator, cg_Dp_table, cg_Te_rc, cg_Te_bytes, cg_Te_length, cp_Te_length, cg_Ci_rc, cg_Ci_kinds, cg_Ci_firsts, cg_Ci_seconds, cg_Ci_inputVariables, cg_Ci_names, cg_Ci_nameLengths, cg_Ci_size, cp_Ci_size, cg_Ci_inputs, cp_Ci_inputs, cg_Re_rc, cg_Re_text, cg_Re_circuit, cg_Re_token, cp_Re_token, cg_Re_start, cp_Re_start, cg_Re_next, cp_Re_next, cg_Re_open, cp_Re_open, cg_Re_fault, cp_Re_fault, cg_Re_faultPlace, cp_Re_faultPlace, cg_Sa_rc, cg_Sa_circuit, cg_Sa_before, cg_Sa_trueBranches, cg_Sa_falseBranches, cg_Sa_tallies, cg_Sa_mostSteps, cp_Sa_mostSteps, cg_Sa_spent, cp_Sa_spent, cg_Ta_rc, cg_Ta_circuit, cg_Ta_words, cr_kinds, cw_kinds, cr_firsts, cw_firsts, cr_seconds, cw_seconds, cr_inputVariables, cw_inputVariables, cr_nameLengths, cw_nameLengths, cr_tallies, cw_tallies, cr_bytes, cw_bytes, cr_words, cw_words, cl_tallies, cr_names, cr_trueB, cr_falseB, cr_name, cw_name, cq_rc, cq_st, cq_size, cq_classes, cq_contradiction, cqp_size, cqp_classes, cqp_contradiction, cq_rd, cq_wr, cq_copy, cl_s_1, cl_s_2, cl_ar_1, cl_ar_2, cl_w_1, cl_w_2, c_isLeast, b1, nI_eq]
      by_cases c2 : E2.1 (2 * v) = 2 * v
      · rw [if_neg (fun z => z.2 c2)] at hQ
        simp (disch := first | exact ev_ok_i _ | exact ev_ok_r _ | exact ev_ok_n | omega | assumption) only [c2, if_true, i10, not_false_eq_true, e_Eq_uniteCommon_33, e_Eq_uniteCommon_36, ev_rm_n, ev_rm_i, ev_rm_r, ev_rm_l, ev_ok_n, ev_ok_i, ev_ok_r, Option.toList_some, Option.toList_none, List.cons_append, List.nil_append, true_and, and_true, true_or, or_true, reduceIte, Nat.reduceEqDiff, if_true, if_false, nI_1]
        exact ih (v + 1) F τ (by omega) hF hI r1 r2 hQ
      · rw [if_pos ⟨c1, c2⟩] at hQ
        simp (disch := first | exact ev_ok_i _ | exact ev_ok_r _ | exact ev_ok_n | omega | assumption) only [c2, if_false, not_true_eq_false, e_Eq_uniteCommon_26, e_Eq_uniteCommon_27, e_Eq_uniteCommon_28, e_Eq_uniteCommon_29, e_Eq_uniteCommon_30, ev_rm_n, ev_rm_i, ev_rm_r, ev_rm_l, ev_ok_n, ev_ok_i, ev_ok_r, Option.toList_some, Option.toList_none, List.cons_append, List.nil_append, true_and, and_true, true_or, or_true, reduceIte, Nat.reduceEqDiff, if_true, if_false, cg_Dp_rc, cg_Dp_text, cg_Dp_circuit, cg_Dp_reader, cg_Dp_current, cg_Dp_working, cg_Dp_saturator, cg_Dp_table, cg_Te_rc, cg_Te_bytes, cg_Te_length, cp_Te_length, cg_Ci_rc, cg_Ci_kinds, cg_Ci_firsts, cg_Ci_seconds, cg_Ci_inputVariables, cg_Ci_names, cg_Ci_nameLengths, cg_Ci_size, cp_Ci_size, cg_Ci_inputs, cp_Ci_inputs, cg_Re_rc, cg_Re_text, cg_Re_circuit, cg_Re_token, cp_Re_token, cg_Re_start, cp_Re_start, cg_Re_next, cp_Re_next, cg_Re_open, cp_Re_open, cg_Re_fault, cp_Re_fault, cg_Re_faultPlace, cp_Re_faultPlace, cg_Sa_rc, cg_Sa_circuit, cg_Sa_before, cg_Sa_trueBranches, cg_Sa_falseBranches, cg_Sa_tallies, cg_Sa_mostSteps, cp_Sa_mostSteps, cg_Sa_spent, cp_Sa_spent, cg_Ta_rc, cg_Ta_circuit, cg_Ta_words, cr_kinds, cw_kinds, cr_firsts, cw_firsts, cr_seconds, cw_seconds, cr_inputVariables, cw_inputVariables, cr_nameLengths, cw_nameLengths, cr_tallies, cw_tallies, cr_bytes, cw_bytes, cr_words, cw_words, cl_tallies, cr_names, cr_trueB, cr_falseB, cr_name, cw_name, cq_rc, cq_st, cq_size, cq_classes, cq_contradiction, cqp_size, cqp_classes, cqp_contradiction, cq_rd, cq_wr, cq_copy, cl_s_1, cl_s_2, cl_ar_1, cl_ar_2, cl_w_1, cl_w_2]
        show ev_R X (d + 2) m_Eq_uniteWithLesser 0 [some (.ref (B + j)), some (.int (nI v)), some (.ref (B + k1)), some (.ref (B + k2)), none, none] [] (cl_put B τ g) _
        simp (disch := first | exact ev_ok_i _ | exact ev_ok_r _ | exact ev_ok_n | omega | assumption) only [e_Eq_uniteWithLesser_0, e_Eq_uniteWithLesser_1, ev_rm_n, ev_rm_i, ev_rm_r, ev_rm_l, ev_ok_n, ev_ok_i, ev_ok_r, Option.toList_some, Option.toList_none, List.cons_append, List.nil_append, true_and, and_true, true_or, or_true, reduceIte, Nat.reduceEqDiff, if_true, if_false]
        refine c_uw_loop hj hk1 hk2 d1 d2 hn (by omega : v < n) h1 h2 z1 z2 v 0 F τ none (by omega) hF hI r1 r2 (fun τ2 q1 q2 => ?_)
        have n1 := cl_eo_ne hj hk1 d1
        have n2 := cl_eo_ne hj hk2 d2
        simp (disch := first | exact ev_ok_i _ | exact ev_ok_r _ | exact ev_ok_n | omega | assumption) only [e_Eq_uniteCommon_33, e_Eq_uniteCommon_36, ev_rm_n, ev_rm_i, ev_rm_r, ev_rm_l, ev_ok_n, ev_ok_i, ev_ok_r, Option.toList_some, Option.toList_none, List.cons_append, List.nil_append, true_and, and_true, true_or, or_true, reduceIte, Nat.reduceEqDiff, if_true, if_false, nI_1]
        exact ih (v + 1) _ τ2 (by omega) q1 (cs_uw_I h1 h2 (by omega : v < n) v 0 F (by omega) hI).1 (cl_E_ke q2 n1.1 n1.2 r1) (cl_E_ke q2 n2.1 n2.2 r2) (fun τ3 p1 p2 => hQ τ3 p1 (cl_ke_tr q2 p2))
theorem c_uniteCommon {k1 k2 : Nat} {E E1 E2 : sp_E} (hj : j ∈ cl_eo) (hk1 : k1 ∈ cl_eo) (hk2 : k2 ∈ cl_eo) (d1 : ¬ k1 = j) (d2 : ¬ k2 = j) (h0 : 1 ≤ n) (hn : n ≤ 120) (hE : sp_va n E) (h1 : sp_va n E1) (h2 : sp_va n E2) (z0 : E.2 = false) (z1 : E1.2 = false) (z2 : E2.2 = false) (i1 : sp_in n E E1) (i2 : sp_in n E E2) (r0 : cl_E τ j n E) (r1 : cl_E τ k1 n E1) (r2 : cl_E τ k2 n E2) (hQ : ∀ τ2, cl_E τ2 j n (sp_ag E E1 E2) → cl_ke (cl_J j) τ τ2 → Q none (cl_put B τ2 g)) : ev_C X (d + 3) m_Eq_uniteCommon [.ref (B + j), .ref (B + k1), .ref (B + k2)] (cl_put B τ g) Q := by
  show ev_R X (d + 3) m_Eq_uniteCommon 0 [some (.ref (B + j)), some (.ref (B + k1)), some (.ref (B + k2)), none] [] (cl_put B τ g) Q
  simp (disch := first | exact ev_ok_i _ | exact ev_ok_r _ | exact ev_ok_n | omega | assumption) only [e_Eq_uniteCommon_0, e_Eq_uniteCommon_1, ev_rm_n, ev_rm_i, ev_rm_r, ev_rm_l, ev_ok_n, ev_ok_i, ev_ok_r, Option.toList_some, Option.toList_none, List.cons_append, List.nil_append, true_and, and_true, true_or, or_true, reduceIte, Nat.reduceEqDiff, if_true, if_false]
  exact c_uc_loop hj hk1 hk2 d1 d2 hn h1 h2 z1 z2 (n - 1) 1 E τ (by omega) r0 ⟨⟨hE, z0⟩, i1, i2⟩ r1 r2 (fun τ2 q1 q2 => hQ τ2 (cl_E_eq q1 (cs_uc_eq h0 hE h1 h2 z0 z1 z2 i1 i2).1) q2)
theorem c_copyFrom {k : Nat} {E : sp_E} (hj : j ∈ cl_eo) (hk : k ∈ cl_eo) (hne : ¬ k = j) (hn : n ≤ 120) (hE : cl_E τ k n E) (hQ : ∀ τ2, cl_E τ2 j n E → cl_ke (cl_J j) τ τ2 → Q none (cl_put B τ2 g)) : ev_C X d m_Eq_copyFrom [.ref (B + j), .ref (B + k)] (cl_put B τ g) Q := by
  show ev_R X d m_Eq_copyFrom 0 [some (.ref (B + j)), some (.ref (B + k))] [] (cl_put B τ g) Q
  obtain ⟨n1, n2⟩ := cl_eo_ne hj hk hne
  have m1 : ¬ k = j + 1 := fun z => n1 (Or.inr z)
  have m2 : ¬ j = j + 1 := by omega
  have z01 := sp_zb_01 E.2
  simp (disch := first | exact ev_ok_i _ | exact ev_ok_r _ | exact ev_ok_n | omega | assumption) only [e_Eq_copyFrom_0, e_Eq_copyFrom_1, e_Eq_copyFrom_4, e_Eq_copyFrom_5, e_Eq_copyFrom_6, e_Eq_copyFrom_9, e_Eq_copyFrom_10, e_Eq_copyFrom_11, e_Eq_copyFrom_14, e_Eq_copyFrom_17, e_Eq_copyFrom_18, e_Eq_copyFrom_19, e_Eq_copyFrom_22, e_Eq_copyFrom_25, e_Eq_copyFrom_26, e_Eq_copyFrom_27, e_Eq_copyFrom_30, e_Eq_copyFrom_33, e_Eq_copyFrom_34, e_Eq_copyFrom_35, e_Eq_copyFrom_38, e_Eq_copyFrom_41, ev_rm_n, ev_rm_i, ev_rm_r, ev_rm_l, ev_ok_n, ev_ok_i, ev_ok_r, Option.toList_some, Option.toList_none, List.cons_append, List.nil_append, true_and, and_true, true_or, or_true, reduceIte, Nat.reduceEqDiff, if_true, if_false, cg_Dp_rc, cg_Dp_text, cg_Dp_circuit, cg_Dp_reader, cg_Dp_current, cg_Dp_working, cg_Dp_saturator, cg_Dp_table, cg_Te_rc, cg_Te_bytes, cg_Te_length, cp_Te_length, cg_Ci_rc, cg_Ci_kinds, cg_Ci_firsts, cg_Ci_seconds, cg_Ci_inputVariables, cg_Ci_names, cg_Ci_nameLengths, cg_Ci_size, cp_Ci_size, cg_Ci_inputs, cp_Ci_inputs, cg_Re_rc, cg_Re_text, cg_Re_circuit, cg_Re_token, cp_Re_token, cg_Re_start, cp_Re_start, cg_Re_next, cp_Re_next, cg_Re_open, cp_Re_open, cg_Re_fault, cp_Re_fault, cg_Re_faultPlace, cp_Re_faultPlace, cg_Sa_rc, cg_Sa_circuit, cg_Sa_before, cg_Sa_trueBranches, cg_Sa_falseBranches, cg_Sa_tallies, cg_Sa_mostSteps, cp_Sa_mostSteps, cg_Sa_spent, cp_Sa_spent, cg_Ta_rc, cg_Ta_circuit, cg_Ta_words, cr_kinds, cw_kinds, cr_firsts, cw_firsts, cr_seconds, cw_seconds, cr_inputVariables, cw_inputVariables, cr_nameLengths, cw_nameLengths, cr_tallies, cw_tallies, cr_bytes, cw_bytes, cr_words, cw_words, cl_tallies, cr_names, cr_trueB, cr_falseB, cr_name, cw_name, cq_rc, cq_st, cq_size, cq_classes, cq_contradiction, cqp_size, cqp_classes, cqp_contradiction, cq_rd, cq_wr, cq_copy, cl_s_1, cl_s_2, cl_ar_1, cl_ar_2, cl_w_1, cl_w_2, hE.1, hE.2.1, m1, hne, z01]
  refine hQ _ ⟨?_, ?_, fun h0 => ⟨?_, fun v hv => ?_⟩⟩ (cl_ke_tr (cl_ke_tr (cl_ke_tr (cl_ke_ar τ _ (Or.inr rfl)) (cl_ke_s _ 1 _ (Or.inl rfl))) (cl_ke_s _ 2 _ (Or.inl rfl))) (cl_ke_s _ 3 _ (Or.inl rfl)))
  · simp only [cl_s_1, if_true, upd_a, if_neg (show ¬ (1 : Nat) = 3 by decide), if_neg (show ¬ (1 : Nat) = 2 by decide)]
  · simp only [cl_s_1, if_true, upd_a]
  · simp only [cl_s_1, if_true, upd_a, if_neg (show ¬ (2 : Nat) = 3 by decide)]
    exact (hE.2.2 h0).1
  · have m3 : ¬ j + 1 = j := by omega
    simp only [cl_s_1, m3, if_false, cl_ar_1, if_true]
    rw [pk_cpy_in (Nat.zero_le v) (by omega), show 0 + (v - 0) = v by omega]
    exact (hE.2.2 h0).2 v hv
theorem c_growTo_loop {E : sp_E} {m : Nat} (hj : j ∈ cl_eo) (hm : m ≤ 120) : ∀ (r u : Nat) (τ : cl_S), u + r = m → n ≤ u → cl_E τ j u (sp_grow E n) → (∀ τ2, cl_E τ2 j m (sp_grow E n) → cl_ke (cl_J j) τ τ2 → Q none (cl_put B τ2 g)) → ev_R X d m_Eq_growTo 5 [some (.ref (B + j)), some (.int (nI m)), some (.int (nI u))] [] (cl_put B τ g) Q := by
  have m2 : ¬ j = j + 1 := by omega
  have m3 : ¬ j + 1 = j := by omega
  intro r
  induction r with
  | zero =>
    intro u τ hu hnu hE hQ
    have e : u = m := by omega
    subst e
    simp (disch := first | exact ev_ok_i _ | exact ev_ok_r _ | exact ev_ok_n | omega | assumption) only [e_Eq_growTo_5, e_Eq_growTo_6, e_Eq_growTo_7, e_Eq_growTo_51, ev_rm_n, ev_rm_i, ev_rm_r, ev_rm_l, ev_ok_n, ev_ok_i, ev_ok_r, Option.toList_some, Option.toList_none, List.cons_append, List.nil_append, true_and, and_true, true_or, or_true, reduceIte, Nat.reduceEqDiff, if_true, if_false, nI_leI, Nat.le_refl]
    exact hQ τ hE (cl_ke_rf _ _)
  | succ r ih =>
    intro u τ hu hnu hE hQ
    have c1 : ¬ m ≤ u := by omega
    have c2 : ¬ (120 : Int32) ≤ nI u := nI_ge (b := 120) (by omega) (by decide)
    simp (disch := first | exact ev_ok_i _ | exact ev_ok_r _ | exact ev_ok_n | omega | assumption) only [e_Eq_growTo_5, e_Eq_growTo_6, e_Eq_growTo_7, e_Eq_growTo_10, e_Eq_growTo_11, e_Eq_growTo_13, e_Eq_growTo_16, e_Eq_growTo_17, e_Eq_growTo_20, e_Eq_growTo_21, e_Eq_growTo_22, e_Eq_growTo_23, e_Eq_growTo_24, e_Eq_growTo_25, e_Eq_growTo_26, e_Eq_growTo_27, e_Eq_growTo_30, e_Eq_growTo_31, e_Eq_growTo_32, e_Eq_growTo_35, e_Eq_growTo_36, e_Eq_growTo_37, e_Eq_growTo_40, e_Eq_growTo_41, e_Eq_growTo_42, e_Eq_growTo_45, ev_rm_n, ev_rm_i, ev_rm_r, ev_rm_l, ev_ok_n, ev_ok_i, ev_ok_r, Option.toList_some, Option.toList_none, List.cons_append, List.nil_append, true_and, and_true, true_or, or_true, reduceIte, Nat.reduceEqDiff, if_true, if_false, cg_Dp_rc, cg_Dp_text, cg_Dp_circuit, cg_Dp_reader, cg_Dp_current, cg_Dp_working, cg_Dp_saturator, cg_Dp_table, cg_Te_rc, cg_Te_bytes, cg_Te_length, cp_Te_length, cg_Ci_rc, cg_Ci_kinds, cg_Ci_firsts, cg_Ci_seconds, cg_Ci_inputVariables, cg_Ci_names, cg_Ci_nameLengths, cg_Ci_size, cp_Ci_size, cg_Ci_inputs, cp_Ci_inputs, cg_Re_rc, cg_Re_text, cg_Re_circuit, cg_Re_token, cp_Re_token, cg_Re_start, cp_Re_start, cg_Re_next, cp_Re_next, cg_Re_open, cp_Re_open, cg_Re_fault, cp_Re_fault, cg_Re_faultPlace, cp_Re_faultPlace, cg_Sa_rc, cg_Sa_circuit, cg_Sa_before, cg_Sa_trueBranches, cg_Sa_falseBranches, cg_Sa_tallies, cg_Sa_mostSteps, cp_Sa_mostSteps, cg_Sa_spent, cp_Sa_spent, cg_Ta_rc, cg_Ta_circuit, cg_Ta_words, cr_kinds, cw_kinds, cr_firsts, cw_firsts, cr_seconds, cw_seconds, cr_inputVariables, cw_inputVariables, cr_nameLengths, cw_nameLengths, cr_tallies, cw_tallies, cr_bytes, cw_bytes, cr_words, cw_words, cl_tallies, cr_names, cr_trueB, cr_falseB, cr_name, cw_name, cq_rc, cq_st, cq_size, cq_classes, cq_contradiction, cqp_size, cqp_classes, cqp_contradiction, cq_rd, cq_wr, cq_copy, cl_s_1, cl_s_2, cl_ar_1, cl_ar_2, cl_w_1, cl_w_2, nI_leI, c1, c2, xo_in, nI_clamp, nL_2, m2, hE.1, nI_1, upd_a, if_neg (show ¬ (1 : Nat) = 2 by decide)]
    rw [e_Eq_growTo_48]
    refine ih (u + 1) _ (by omega) (by omega) ⟨?_, ?_, fun h0 => ⟨?_, fun v hv => ?_⟩⟩ (fun τ2 q1 q2 => hQ τ2 q1 (cl_ke_tr (cl_ke_tr (cl_ke_tr (cl_ke_s τ u _ (Or.inr rfl)) (cl_ke_s _ 2 _ (Or.inl rfl))) (cl_ke_s _ 1 _ (Or.inl rfl))) q2))
    · simp only [cl_s_1, if_true, upd_a]
    · simp only [cl_s_1, if_true, upd_a, m2, if_false, if_neg (show ¬ (3 : Nat) = 1 by decide), if_neg (show ¬ (3 : Nat) = 2 by decide)]
      exact hE.2.1
    · simp only [cl_s_1, if_true, upd_a, m2, if_false, if_neg (show ¬ (2 : Nat) = 1 by decide)]
      rw [(hE.2.2 h0).1, nL_p2, sp_cn_grow E hnu]
    · simp only [cl_s_1, if_true, m3, if_false, upd_a]
      by_cases e : v = u
      · subst e
        rw [if_pos rfl]
        show nI (2 * v) = nI (if 2 * v < 2 * n then E.1 (2 * v) else 2 * v)
        rw [if_neg (by omega)]
      · rw [if_neg e]
        exact (hE.2.2 h0).2 v (by omega)
theorem c_growTo {E : sp_E} {m : Nat} (hj : j ∈ cl_eo) (hnm : n ≤ m) (hm : m ≤ 120) (hE : cl_E τ j n E) (hQ : ∀ τ2, cl_E τ2 j m (sp_grow E n) → cl_ke (cl_J j) τ τ2 → Q none (cl_put B τ2 g)) : ev_C X d m_Eq_growTo [.ref (B + j), .int (nI m)] (cl_put B τ g) Q := by
  show ev_R X d m_Eq_growTo 0 [some (.ref (B + j)), some (.int (nI m)), none] [] (cl_put B τ g) Q
  simp (disch := first | exact ev_ok_i _ | exact ev_ok_r _ | exact ev_ok_n | omega | assumption) only [e_Eq_growTo_0, e_Eq_growTo_1, e_Eq_growTo_4, ev_rm_n, ev_rm_i, ev_rm_r, ev_rm_l, ev_ok_n, ev_ok_i, ev_ok_r, Option.toList_some, Option.toList_none, List.cons_append, List.nil_append, true_and, and_true, true_or, or_true, reduceIte, Nat.reduceEqDiff, if_true, if_false, cg_Dp_rc, cg_Dp_text, cg_Dp_circuit, cg_Dp_reader, cg_Dp_current, cg_Dp_working, cg_Dp_saturator, cg_Dp_table, cg_Te_rc, cg_Te_bytes, cg_Te_length, cp_Te_length, cg_Ci_rc, cg_Ci_kinds, cg_Ci_firsts, cg_Ci_seconds, cg_Ci_inputVariables, cg_Ci_names, cg_Ci_nameLengths, cg_Ci_size, cp_Ci_size, cg_Ci_inputs, cp_Ci_inputs, cg_Re_rc, cg_Re_text, cg_Re_circuit, cg_Re_token, cp_Re_token, cg_Re_start, cp_Re_start, cg_Re_next, cp_Re_next, cg_Re_open, cp_Re_open, cg_Re_fault, cp_Re_fault, cg_Re_faultPlace, cp_Re_faultPlace, cg_Sa_rc, cg_Sa_circuit, cg_Sa_before, cg_Sa_trueBranches, cg_Sa_falseBranches, cg_Sa_tallies, cg_Sa_mostSteps, cp_Sa_mostSteps, cg_Sa_spent, cp_Sa_spent, cg_Ta_rc, cg_Ta_circuit, cg_Ta_words, cr_kinds, cw_kinds, cr_firsts, cw_firsts, cr_seconds, cw_seconds, cr_inputVariables, cw_inputVariables, cr_nameLengths, cw_nameLengths, cr_tallies, cw_tallies, cr_bytes, cw_bytes, cr_words, cw_words, cl_tallies, cr_names, cr_trueB, cr_falseB, cr_name, cw_name, cq_rc, cq_st, cq_size, cq_classes, cq_contradiction, cqp_size, cqp_classes, cqp_contradiction, cq_rd, cq_wr, cq_copy, cl_s_1, cl_s_2, cl_ar_1, cl_ar_2, cl_w_1, cl_w_2, hE.1]
  exact c_growTo_loop hj hm (m - n) n τ (by omega) (Nat.le_refl n) (cl_E_eq hE (sp_grow_eq E n)) hQ
theorem c_separate {m : Nat} (hj : j ∈ cl_eo) (hm : m ≤ 120) (hQ : ∀ τ2, cl_E τ2 j m sp_id → cl_ke (cl_J j) τ τ2 → Q none (cl_put B τ2 g)) : ev_C X (d + 1) m_Eq_separate [.ref (B + j), .int (nI m)] (cl_put B τ g) Q := by
  show ev_R X (d + 1) m_Eq_separate 0 [some (.ref (B + j)), some (.int (nI m))] [] (cl_put B τ g) Q
  simp (disch := first | exact ev_ok_i _ | exact ev_ok_r _ | exact ev_ok_n | omega | assumption) only [e_Eq_separate_0, e_Eq_separate_1, e_Eq_separate_2, e_Eq_separate_5, e_Eq_separate_6, e_Eq_separate_7, e_Eq_separate_10, e_Eq_separate_11, e_Eq_separate_12, e_Eq_separate_15, e_Eq_separate_16, e_Eq_separate_17, ev_rm_n, ev_rm_i, ev_rm_r, ev_rm_l, ev_ok_n, ev_ok_i, ev_ok_r, Option.toList_some, Option.toList_none, List.cons_append, List.nil_append, true_and, and_true, true_or, or_true, reduceIte, Nat.reduceEqDiff, if_true, if_false, cg_Dp_rc, cg_Dp_text, cg_Dp_circuit, cg_Dp_reader, cg_Dp_current, cg_Dp_working, cg_Dp_saturator, cg_Dp_table, cg_Te_rc, cg_Te_bytes, cg_Te_length, cp_Te_length, cg_Ci_rc, cg_Ci_kinds, cg_Ci_firsts, cg_Ci_seconds, cg_Ci_inputVariables, cg_Ci_names, cg_Ci_nameLengths, cg_Ci_size, cp_Ci_size, cg_Ci_inputs, cp_Ci_inputs, cg_Re_rc, cg_Re_text, cg_Re_circuit, cg_Re_token, cp_Re_token, cg_Re_start, cp_Re_start, cg_Re_next, cp_Re_next, cg_Re_open, cp_Re_open, cg_Re_fault, cp_Re_fault, cg_Re_faultPlace, cp_Re_faultPlace, cg_Sa_rc, cg_Sa_circuit, cg_Sa_before, cg_Sa_trueBranches, cg_Sa_falseBranches, cg_Sa_tallies, cg_Sa_mostSteps, cp_Sa_mostSteps, cg_Sa_spent, cp_Sa_spent, cg_Ta_rc, cg_Ta_circuit, cg_Ta_words, cr_kinds, cw_kinds, cr_firsts, cw_firsts, cr_seconds, cw_seconds, cr_inputVariables, cw_inputVariables, cr_nameLengths, cw_nameLengths, cr_tallies, cw_tallies, cr_bytes, cw_bytes, cr_words, cw_words, cl_tallies, cr_names, cr_trueB, cr_falseB, cr_name, cw_name, cq_rc, cq_st, cq_size, cq_classes, cq_contradiction, cqp_size, cqp_classes, cqp_contradiction, cq_rd, cq_wr, cq_copy, cl_s_1, cl_s_2, cl_ar_1, cl_ar_2, cl_w_1, cl_w_2]
  refine c_growTo (n := 0) (E := sp_id) hj (Nat.zero_le m) hm ⟨?_, ?_, fun _ => ⟨?_, fun v hv => absurd hv (Nat.not_lt_zero v)⟩⟩ (fun τ2 q1 q2 => ?_)
  · simp only [cl_s_1, if_true, upd_a, if_neg (show ¬ (1 : Nat) = 3 by decide), if_neg (show ¬ (1 : Nat) = 2 by decide)]; rfl
  · simp only [cl_s_1, if_true, upd_a]; rfl
  · simp only [cl_s_1, if_true, upd_a, if_neg (show ¬ (2 : Nat) = 3 by decide)]; rfl
  · simp (disch := first | exact ev_ok_i _ | exact ev_ok_r _ | exact ev_ok_n | omega | assumption) only [e_Eq_separate_20, ev_rm_n, ev_rm_i, ev_rm_r, ev_rm_l, ev_ok_n, ev_ok_i, ev_ok_r, Option.toList_some, Option.toList_none, List.cons_append, List.nil_append, true_and, and_true, true_or, or_true, reduceIte, Nat.reduceEqDiff, if_true, if_false]
    exact hQ τ2 (cl_E_eq q1 (sp_grow_id m)) (cl_ke_tr (cl_ke_tr (cl_ke_tr (cl_ke_s τ 1 _ (Or.inl rfl)) (cl_ke_s _ 2 _ (Or.inl rfl))) (cl_ke_s _ 3 _ (Or.inl rfl))) q2)
end CQ2
