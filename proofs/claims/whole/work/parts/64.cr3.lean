/-! THE CLASS's reader: its state, looking, taking, opening, combining -/
def cl_L (τ : cl_S) (x : sp_X) (s : sp_P) : Prop := τ.1 34 2 = nI (cs_k (tK x s)) ∧ τ.1 34 3 = nI (tS x s) ∧ τ.1 34 4 = nI (tS x s + tZ x s) ∧ ¬ tK x s = 262
def cl_P (τ : cl_S) (x : sp_X) (s : sp_P) : Prop := (cl_cR τ (pC s) ∧ cl_xR τ x) ∧ τ.1 34 6 = nI (pF s) ∧ (¬ pF s = 0 → τ.1 34 7 = nI s.2.1.2) ∧ (pF s = 0 → τ.1 34 7 = -1 ∧ τ.1 34 5 = nI (pO s) ∧ ((τ.1 34 2 = 0 ∧ τ.1 34 4 = nI s.1) ∨ cl_L τ x s))
abbrev cl_J4 : Nat → Prop := fun i => i = 34
abbrev cl_JR : Nat → Prop := fun i => 3 ≤ i ∧ i ≤ 34
theorem cl_J4_R {i : Nat} (h : cl_J4 i) : cl_JR i := by
  have : i = 34 := h
  omega
theorem cl_JC_R {i : Nat} (h : cl_JC i) : cl_JR i := by
  have h1 : 3 ≤ i ∧ i ≤ 33 := h
  exact ⟨h1.1, by omega⟩
theorem cl_b4 {τ τ2 : cl_S} {x : sp_X} {c : sp_C} (hi : cI c ≤ 24) (hk : cl_ke cl_J4 τ τ2) (h : cl_cR τ c ∧ cl_xR τ x) : cl_cR τ2 c ∧ cl_xR τ2 x := ⟨cl_cR_ke hi hk (fun i hi z => by have h1 : 3 ≤ i ∧ i ≤ 33 := hi; have h2 : i = 34 := z; omega) h.1, cl_xR_ke hk (by decide) (by decide) h.2⟩
/-- a fault in the state -/
theorem cl_P_fail {τ τ2 : cl_S} {x : sp_X} {s : sp_P} {k a : Nat} (hi : cI (pC s) ≤ 24) (hb : cl_cR τ (pC s) ∧ cl_xR τ x) (h0 : pF s = 0) (hk : ¬ k = 0) (h : cl_ke cl_J4 τ τ2) (h6 : τ2.1 34 6 = nI k) (h7 : τ2.1 34 7 = nI a) : cl_P τ2 x (sp_fail s k a) := by
  rw [sp_fail_0 h0]
  exact ⟨cl_b4 hi h hb, h6, fun _ => h7, fun z => absurd z hk⟩
section CR3
variable {X : xo_X} {d B : Nat} {τ : cl_S} {g : xo_G} {Q : Option Value → xo_G → Prop} {x : sp_X} {s : sp_P} {n0 : Nat}
theorem c_reLookF (h : ¬ τ.1 34 6 = 0) : ev_C X d m_Re_look [.ref (B + 34)] (cl_put B τ g) Q ↔ Q (some (.int 0)) (cl_put B τ g) := by
  show ev_R X d m_Re_look 0 [some (.ref (B + 34))] [] (cl_put B τ g) Q ↔ _
  simp (disch := first | exact ev_ok_i _ | exact ev_ok_r _ | exact ev_ok_n | omega | assumption | decide) only [e_Re_look_0, e_Re_look_1, e_Re_look_4, e_Re_look_7, e_Re_look_8, e_Re_look_11, e_Re_look_71, e_Re_look_72, e_Re_look_75, e_Re_look_85, e_Re_look_86, ev_rm_n, ev_rm_i, ev_rm_r, ev_rm_l, ev_ok_n, ev_ok_i, ev_ok_r, Option.toList_some, Option.toList_none, List.cons_append, List.nil_append, true_and, and_true, true_or, or_true, reduceIte, Nat.reduceEqDiff, if_true, if_false, cg_Dp_rc, cg_Dp_text, cg_Dp_circuit, cg_Dp_reader, cg_Dp_current, cg_Dp_working, cg_Dp_saturator, cg_Dp_table, cg_Te_rc, cg_Te_bytes, cg_Te_length, cp_Te_length, cg_Ci_rc, cg_Ci_kinds, cg_Ci_firsts, cg_Ci_seconds, cg_Ci_inputVariables, cg_Ci_names, cg_Ci_nameLengths, cg_Ci_size, cp_Ci_size, cg_Ci_inputs, cp_Ci_inputs, cg_Re_rc, cg_Re_text, cg_Re_circuit, cg_Re_token, cp_Re_token, cg_Re_start, cp_Re_start, cg_Re_next, cp_Re_next, cg_Re_open, cp_Re_open, cg_Re_fault, cp_Re_fault, cg_Re_faultPlace, cp_Re_faultPlace, cg_Sa_rc, cg_Sa_circuit, cg_Sa_before, cg_Sa_trueBranches, cg_Sa_falseBranches, cg_Sa_tallies, cg_Sa_mostSteps, cp_Sa_mostSteps, cg_Sa_spent, cp_Sa_spent, cg_Ta_rc, cg_Ta_circuit, cg_Ta_words, cr_kinds, cw_kinds, cr_firsts, cw_firsts, cr_seconds, cw_seconds, cr_inputVariables, cw_inputVariables, cr_nameLengths, cw_nameLengths, cr_tallies, cw_tallies, cr_bytes, cw_bytes, cr_words, cw_words, cl_tallies, cr_names, cr_trueB, cr_falseB, cr_name, cw_name, cq_rc, cq_st, cq_size, cq_classes, cq_contradiction, cqp_size, cqp_classes, cqp_contradiction, cq_rd, cq_wr, cq_copy, cl_s_1, cl_s_2, cl_ar_1, cl_ar_2, cl_w_1, cl_w_2, h, not_false_eq_true, ite_self]
theorem c_reLook (hX : cl_TX X B g) (hP : cl_P τ x s) (hok : sp_pok x n0 s) (h0 : pF s = 0) (hQ : ∀ τ2, cl_P τ2 x (sp_look x s) → τ2.1 34 3 = nI (tS x s) → (pF (sp_look x s) = 0 → cl_L τ2 x s) → cl_ke cl_J4 τ τ2 → Q (some (.int (if pF (sp_look x s) = 0 then nI (cs_k (tK x s)) else 0))) (cl_put B τ2 g)) : ev_C X (d + 6) m_Re_look [.ref (B + 34)] (cl_put B τ g) Q := by
  show ev_R X (d + 6) m_Re_look 0 [some (.ref (B + 34))] [] (cl_put B τ g) Q
  obtain ⟨hb, h6, h7, h8⟩ := hP
  obtain ⟨h9, h5, hor⟩ := h8 h0
  have h6' : τ.1 34 6 = 0 := by rw [h6, h0]; rfl
  have hi24 := hok.1.1.2.2
  have kd : cs_kd (tK x s) := sp_tw_kd x _
  have kl := cs_k_lt (tK x s)
  have tsl := sp_ts_le hok.2.2.1
  have hx3 := hok.2.2.2.2
  rcases hor with ⟨l2, l4⟩ | hL
  · -- not looked at yet
    have hxx := hb.2
    have bb : ∀ (K : Option Value → xo_G → Prop), ev_C X (d + 5) m_Re_behindBlanks [.ref (B + 34), .int (nI s.1)] (cl_put B τ g) K ↔ K (some (.int (nI (sp_ts x s.1)))) (cl_put B τ g) := fun K => c_behindBlanks (d := d + 4) hxx hx3 hok.2.2.1
    have k1 : cl_ke cl_J4 τ (cl_s τ 34 3 (nI (sp_ts x s.1))) := cl_ke_s τ 3 _ rfl
    have hx1 : cl_xR (cl_s τ 34 3 (nI (sp_ts x s.1))) x := cl_xR_ke k1 (by decide) (by decide) hxx
    have bt : ∀ (K : Option Value → xo_G → Prop), ev_C X (d + 5) m_Te_byteAt [.ref (B + 1), .int (nI (sp_ts x s.1))] (cl_put B (cl_s τ 34 3 (nI (sp_ts x s.1))) g) K ↔ K (some (.int (cs_bt x (sp_ts x s.1)))) (cl_put B (cl_s τ 34 3 (nI (sp_ts x s.1))) g) := fun K => c_byteAt hx1 hx3 (by omega)
    simp (disch := first | exact ev_ok_i _ | exact ev_ok_r _ | exact ev_ok_n | omega | assumption | decide) only [e_Re_look_0, e_Re_look_1, e_Re_look_4, e_Re_look_7, e_Re_look_8, e_Re_look_11, e_Re_look_14, e_Re_look_15, e_Re_look_16, e_Re_look_17, e_Re_look_20, e_Re_look_23, e_Re_look_26, e_Re_look_27, e_Re_look_30, e_Re_look_31, e_Re_look_34, e_Re_look_37, e_Re_look_40, ev_rm_n, ev_rm_i, ev_rm_r, ev_rm_l, ev_ok_n, ev_ok_i, ev_ok_r, Option.toList_some, Option.toList_none, List.cons_append, List.nil_append, true_and, and_true, true_or, or_true, reduceIte, Nat.reduceEqDiff, if_true, if_false, cg_Dp_rc, cg_Dp_text, cg_Dp_circuit, cg_Dp_reader, cg_Dp_current, cg_Dp_working, cg_Dp_saturator, cg_Dp_table, cg_Te_rc, cg_Te_bytes, cg_Te_length, cp_Te_length, cg_Ci_rc, cg_Ci_kinds, cg_Ci_firsts, cg_Ci_seconds, cg_Ci_inputVariables, cg_Ci_names, cg_Ci_nameLengths, cg_Ci_size, cp_Ci_size, cg_Ci_inputs, cp_Ci_inputs, cg_Re_rc, cg_Re_text, cg_Re_circuit, cg_Re_token, cp_Re_token, cg_Re_start, cp_Re_start, cg_Re_next, cp_Re_next, cg_Re_open, cp_Re_open, cg_Re_fault, cp_Re_fault, cg_Re_faultPlace, cp_Re_faultPlace, cg_Sa_rc, cg_Sa_circuit, cg_Sa_before, cg_Sa_trueBranches, cg_Sa_falseBranches, cg_Sa_tallies, cg_Sa_mostSteps, cp_Sa_mostSteps, cg_Sa_spent, cp_Sa_spent, cg_Ta_rc, cg_Ta_circuit, cg_Ta_words, cr_kinds, cw_kinds, cr_firsts, cw_firsts, cr_seconds, cw_seconds, cr_inputVariables, cw_inputVariables, cr_nameLengths, cw_nameLengths, cr_tallies, cw_tallies, cr_bytes, cw_bytes, cr_words, cw_words, cl_tallies, cr_names, cr_trueB, cr_falseB, cr_name, cw_name, cq_rc, cq_st, cq_size, cq_classes, cq_contradiction, cqp_size, cqp_classes, cqp_contradiction, cq_rd, cq_wr, cq_copy, cl_s_1, cl_s_2, cl_ar_1, cl_ar_2, cl_w_1, cl_w_2, l2, h6', l4, bb, bt, upd_a, c_reLetter, zi_0, not_true_eq_false, Nat.reduceEqDiff]
    generalize hτ1 : cl_s τ 34 3 (nI (sp_ts x s.1)) = τ1 at k1 hx1
    have e3 : τ1.1 34 3 = nI (sp_ts x s.1) := by rw [← hτ1, cl_s_1, if_pos rfl, upd_a, if_pos rfl]
    have e2 : τ1.1 34 2 = 0 := by rw [← hτ1, cl_s_1, if_pos rfl, upd_a, if_neg (by decide)]; exact l2
    have e6 : τ1.1 34 6 = 0 := by rw [← hτ1, cl_s_1, if_pos rfl, upd_a, if_neg (by decide)]; exact h6'
    have e7 : τ1.1 34 7 = -1 := by rw [← hτ1, cl_s_1, if_pos rfl, upd_a, if_neg (by decide)]; exact h9
    have e5 : τ1.1 34 5 = nI (pO s) := by rw [← hτ1, cl_s_1, if_pos rfl, upd_a, if_neg (by decide)]; exact h5
    have i10 : ¬ (1 : Int32) = 0 := by decide
    have tail : ev_R X (d + 6) m_Re_look 54 [some (.ref (B + 34))] [] (cl_put B (cl_sc τ1 (tK x s) (tS x s + tZ x s)) g) Q := by
      by_cases z : tK x s = 262
      · have ez : cs_k (tK x s) = 0 := (cs_k_0 kd).mpr z
        have e : cl_sc τ1 (tK x s) (tS x s + tZ x s) = τ1 := by unfold cl_sc; rw [if_pos ez]
        have el : sp_look x s = sp_fail s 1 (tS x s) := by unfold sp_look; rw [if_pos z]
        rw [e]
        rw [el] at hQ
        have hf : ¬ pF (sp_fail s 1 (tS x s)) = 0 := sp_fail_f (by decide)
        rw [if_neg hf] at hQ
        simp (disch := first | exact ev_ok_i _ | exact ev_ok_r _ | exact ev_ok_n | omega | assumption | decide) only [e_Re_look_54, e_Re_look_55, e_Re_look_58, e_Re_look_61, e_Re_look_62, e_Re_look_63, e_Re_look_64, e_Re_look_67, e_Re_look_70, e_Re_look_71, e_Re_look_72, e_Re_look_75, e_Re_look_85, e_Re_look_86, ev_rm_n, ev_rm_i, ev_rm_r, ev_rm_l, ev_ok_n, ev_ok_i, ev_ok_r, Option.toList_some, Option.toList_none, List.cons_append, List.nil_append, true_and, and_true, true_or, or_true, reduceIte, Nat.reduceEqDiff, if_true, if_false, cg_Dp_rc, cg_Dp_text, cg_Dp_circuit, cg_Dp_reader, cg_Dp_current, cg_Dp_working, cg_Dp_saturator, cg_Dp_table, cg_Te_rc, cg_Te_bytes, cg_Te_length, cp_Te_length, cg_Ci_rc, cg_Ci_kinds, cg_Ci_firsts, cg_Ci_seconds, cg_Ci_inputVariables, cg_Ci_names, cg_Ci_nameLengths, cg_Ci_size, cp_Ci_size, cg_Ci_inputs, cp_Ci_inputs, cg_Re_rc, cg_Re_text, cg_Re_circuit, cg_Re_token, cp_Re_token, cg_Re_start, cp_Re_start, cg_Re_next, cp_Re_next, cg_Re_open, cp_Re_open, cg_Re_fault, cp_Re_fault, cg_Re_faultPlace, cp_Re_faultPlace, cg_Sa_rc, cg_Sa_circuit, cg_Sa_before, cg_Sa_trueBranches, cg_Sa_falseBranches, cg_Sa_tallies, cg_Sa_mostSteps, cp_Sa_mostSteps, cg_Sa_spent, cp_Sa_spent, cg_Ta_rc, cg_Ta_circuit, cg_Ta_words, cr_kinds, cw_kinds, cr_firsts, cw_firsts, cr_seconds, cw_seconds, cr_inputVariables, cw_inputVariables, cr_nameLengths, cw_nameLengths, cr_tallies, cw_tallies, cr_bytes, cw_bytes, cr_words, cw_words, cl_tallies, cr_names, cr_trueB, cr_falseB, cr_name, cw_name, cq_rc, cq_st, cq_size, cq_classes, cq_contradiction, cqp_size, cqp_classes, cqp_contradiction, cq_rd, cq_wr, cq_copy, cl_s_1, cl_s_2, cl_ar_1, cl_ar_2, cl_w_1, cl_w_2, e2, e3, e6, c_refuse, not_true_eq_false, if_true, upd_a, Nat.reduceEqDiff, i10, not_false_eq_true]
        have k2 : cl_ke cl_J4 τ (cl_s (cl_s τ1 34 6 1) 34 7 (nI (sp_ts x s.1))) := cl_ke_tr k1 (cl_ke_tr (cl_ke_s τ1 6 _ rfl) (cl_ke_s _ 7 _ rfl))
        refine hQ _ (cl_P_fail hi24 hb h0 (by decide) k2 ?_ ?_) ?_ (fun z => absurd z hf) k2
        · simp only [cl_s_1, if_true, upd_a, Nat.reduceEqDiff, if_false]; rfl
        · simp only [cl_s_1, if_true, upd_a]
        · simp only [cl_s_1, if_true, upd_a, Nat.reduceEqDiff, if_false]; exact e3
      · have ez : ¬ cs_k (tK x s) = 0 := fun w => z ((cs_k_0 kd).mp w)
        have e : cl_sc τ1 (tK x s) (tS x s + tZ x s) = cl_s (cl_s τ1 34 2 (nI (cs_k (tK x s)))) 34 4 (nI (tS x s + tZ x s)) := by unfold cl_sc; rw [if_neg ez]
        have el : sp_look x s = s := by unfold sp_look; rw [if_neg z]
        have nz : ¬ nI (cs_k (tK x s)) = 0 := fun w => ez ((nE_0 (by omega)).mp w)
        rw [e]
        rw [el, if_pos h0] at hQ
        have k2 : cl_ke cl_J4 τ (cl_s (cl_s τ1 34 2 (nI (cs_k (tK x s)))) 34 4 (nI (tS x s + tZ x s))) := cl_ke_tr k1 (cl_ke_tr (cl_ke_s τ1 2 _ rfl) (cl_ke_s _ 4 _ rfl))
        simp (disch := first | exact ev_ok_i _ | exact ev_ok_r _ | exact ev_ok_n | omega | assumption | decide) only [e_Re_look_54, e_Re_look_55, e_Re_look_58, e_Re_look_71, e_Re_look_72, e_Re_look_75, e_Re_look_78, e_Re_look_79, e_Re_look_82, e_Re_look_85, e_Re_look_86, ev_rm_n, ev_rm_i, ev_rm_r, ev_rm_l, ev_ok_n, ev_ok_i, ev_ok_r, Option.toList_some, Option.toList_none, List.cons_append, List.nil_append, true_and, and_true, true_or, or_true, reduceIte, Nat.reduceEqDiff, if_true, if_false, cg_Dp_rc, cg_Dp_text, cg_Dp_circuit, cg_Dp_reader, cg_Dp_current, cg_Dp_working, cg_Dp_saturator, cg_Dp_table, cg_Te_rc, cg_Te_bytes, cg_Te_length, cp_Te_length, cg_Ci_rc, cg_Ci_kinds, cg_Ci_firsts, cg_Ci_seconds, cg_Ci_inputVariables, cg_Ci_names, cg_Ci_nameLengths, cg_Ci_size, cp_Ci_size, cg_Ci_inputs, cp_Ci_inputs, cg_Re_rc, cg_Re_text, cg_Re_circuit, cg_Re_token, cp_Re_token, cg_Re_start, cp_Re_start, cg_Re_next, cp_Re_next, cg_Re_open, cp_Re_open, cg_Re_fault, cp_Re_fault, cg_Re_faultPlace, cp_Re_faultPlace, cg_Sa_rc, cg_Sa_circuit, cg_Sa_before, cg_Sa_trueBranches, cg_Sa_falseBranches, cg_Sa_tallies, cg_Sa_mostSteps, cp_Sa_mostSteps, cg_Sa_spent, cp_Sa_spent, cg_Ta_rc, cg_Ta_circuit, cg_Ta_words, cr_kinds, cw_kinds, cr_firsts, cw_firsts, cr_seconds, cw_seconds, cr_inputVariables, cw_inputVariables, cr_nameLengths, cw_nameLengths, cr_tallies, cw_tallies, cr_bytes, cw_bytes, cr_words, cw_words, cl_tallies, cr_names, cr_trueB, cr_falseB, cr_name, cw_name, cq_rc, cq_st, cq_size, cq_classes, cq_contradiction, cqp_size, cqp_classes, cqp_contradiction, cq_rd, cq_wr, cq_copy, cl_s_1, cl_s_2, cl_ar_1, cl_ar_2, cl_w_1, cl_w_2, e6, upd_a, Nat.reduceEqDiff, nz, not_false_eq_true, if_true, if_false, not_true_eq_false]
        have hL : cl_L (cl_s (cl_s τ1 34 2 (nI (cs_k (tK x s)))) 34 4 (nI (tS x s + tZ x s))) x s := by
          refine ⟨?_, ?_, ?_, z⟩ <;> simp only [cl_s_1, if_true, upd_a, Nat.reduceEqDiff, if_false]
          exact e3
        refine hQ _ ⟨cl_b4 hi24 k2 hb, ?_, fun w => absurd h0 w, fun _ => ⟨?_, ?_, Or.inr hL⟩⟩ ?_ (fun _ => hL) k2
        · simp only [cl_s_1, if_true, upd_a, Nat.reduceEqDiff, if_false]; rw [e6, h0]; rfl
        · simp only [cl_s_1, if_true, upd_a, Nat.reduceEqDiff, if_false]; exact e7
        · simp only [cl_s_1, if_true, upd_a, Nat.reduceEqDiff, if_false]; exact e5
        · simp only [cl_s_1, if_true, upd_a, Nat.reduceEqDiff, if_false]; exact e3
    by_cases sm : sp_ts x s.1 < x.2 ∧ sp_small (x.1 (sp_ts x s.1))
    · have sm2 : sp_small (cs_bt x (sp_ts x s.1)) := (cs_bt_small hxx.2.2 sm.1).mpr sm.2
      have sw : ∀ (K : Option Value → xo_G → Prop), ev_C X (d + 5) m_Re_scanWord [.ref (B + 34)] (cl_put B τ1 g) K ↔ K none (cl_put B (cl_sc τ1 (tK x s) (tS x s + tZ x s)) g) := fun K => c_scanWord hX hx1 hx3 sm.1 e3 sm.2
      rw [if_neg (fun z => z sm2)]
      simp (disch := first | exact ev_ok_i _ | exact ev_ok_r _ | exact ev_ok_n | omega | assumption | decide) only [e_Re_look_43, e_Re_look_44, ev_rm_n, ev_rm_i, ev_rm_r, ev_rm_l, ev_ok_n, ev_ok_i, ev_ok_r, Option.toList_some, Option.toList_none, List.cons_append, List.nil_append, true_and, and_true, true_or, or_true, reduceIte, Nat.reduceEqDiff, if_true, if_false, cg_Dp_rc, cg_Dp_text, cg_Dp_circuit, cg_Dp_reader, cg_Dp_current, cg_Dp_working, cg_Dp_saturator, cg_Dp_table, cg_Te_rc, cg_Te_bytes, cg_Te_length, cp_Te_length, cg_Ci_rc, cg_Ci_kinds, cg_Ci_firsts, cg_Ci_seconds, cg_Ci_inputVariables, cg_Ci_names, cg_Ci_nameLengths, cg_Ci_size, cp_Ci_size, cg_Ci_inputs, cp_Ci_inputs, cg_Re_rc, cg_Re_text, cg_Re_circuit, cg_Re_token, cp_Re_token, cg_Re_start, cp_Re_start, cg_Re_next, cp_Re_next, cg_Re_open, cp_Re_open, cg_Re_fault, cp_Re_fault, cg_Re_faultPlace, cp_Re_faultPlace, cg_Sa_rc, cg_Sa_circuit, cg_Sa_before, cg_Sa_trueBranches, cg_Sa_falseBranches, cg_Sa_tallies, cg_Sa_mostSteps, cp_Sa_mostSteps, cg_Sa_spent, cp_Sa_spent, cg_Ta_rc, cg_Ta_circuit, cg_Ta_words, cr_kinds, cw_kinds, cr_firsts, cw_firsts, cr_seconds, cw_seconds, cr_inputVariables, cw_inputVariables, cr_nameLengths, cw_nameLengths, cr_tallies, cw_tallies, cr_bytes, cw_bytes, cr_words, cw_words, cl_tallies, cr_names, cr_trueB, cr_falseB, cr_name, cw_name, cq_rc, cq_st, cq_size, cq_classes, cq_contradiction, cqp_size, cqp_classes, cqp_contradiction, cq_rd, cq_wr, cq_copy, cl_s_1, cl_s_2, cl_ar_1, cl_ar_2, cl_w_1, cl_w_2, sw]
      rw [e_Re_look_47]
      exact tail
    · have sm2 : ¬ sp_small (cs_bt x (sp_ts x s.1)) := fun w => by
        by_cases hlt : sp_ts x s.1 < x.2
        · exact sm ⟨hlt, (cs_bt_small hxx.2.2 hlt).mp w⟩
        · rw [(cs_bt_m1 hxx.2.2).mpr hlt] at w
          exact absurd w (by decide)
      have sw : ∀ (K : Option Value → xo_G → Prop), ev_C X (d + 5) m_Re_scanSign [.ref (B + 34)] (cl_put B τ1 g) K ↔ K none (cl_put B (cl_sc τ1 (tK x s) (tS x s + tZ x s)) g) := fun K => c_scanSign hX hx1 hx3 tsl.2 e3 sm
      rw [if_pos sm2]
      simp (disch := first | exact ev_ok_i _ | exact ev_ok_r _ | exact ev_ok_n | omega | assumption | decide) only [e_Re_look_50, e_Re_look_51, ev_rm_n, ev_rm_i, ev_rm_r, ev_rm_l, ev_ok_n, ev_ok_i, ev_ok_r, Option.toList_some, Option.toList_none, List.cons_append, List.nil_append, true_and, and_true, true_or, or_true, reduceIte, Nat.reduceEqDiff, if_true, if_false, cg_Dp_rc, cg_Dp_text, cg_Dp_circuit, cg_Dp_reader, cg_Dp_current, cg_Dp_working, cg_Dp_saturator, cg_Dp_table, cg_Te_rc, cg_Te_bytes, cg_Te_length, cp_Te_length, cg_Ci_rc, cg_Ci_kinds, cg_Ci_firsts, cg_Ci_seconds, cg_Ci_inputVariables, cg_Ci_names, cg_Ci_nameLengths, cg_Ci_size, cp_Ci_size, cg_Ci_inputs, cp_Ci_inputs, cg_Re_rc, cg_Re_text, cg_Re_circuit, cg_Re_token, cp_Re_token, cg_Re_start, cp_Re_start, cg_Re_next, cp_Re_next, cg_Re_open, cp_Re_open, cg_Re_fault, cp_Re_fault, cg_Re_faultPlace, cp_Re_faultPlace, cg_Sa_rc, cg_Sa_circuit, cg_Sa_before, cg_Sa_trueBranches, cg_Sa_falseBranches, cg_Sa_tallies, cg_Sa_mostSteps, cp_Sa_mostSteps, cg_Sa_spent, cp_Sa_spent, cg_Ta_rc, cg_Ta_circuit, cg_Ta_words, cr_kinds, cw_kinds, cr_firsts, cw_firsts, cr_seconds, cw_seconds, cr_inputVariables, cw_inputVariables, cr_nameLengths, cw_nameLengths, cr_tallies, cw_tallies, cr_bytes, cw_bytes, cr_words, cw_words, cl_tallies, cr_names, cr_trueB, cr_falseB, cr_name, cw_name, cq_rc, cq_st, cq_size, cq_classes, cq_contradiction, cqp_size, cqp_classes, cqp_contradiction, cq_rd, cq_wr, cq_copy, cl_s_1, cl_s_2, cl_ar_1, cl_ar_2, cl_w_1, cl_w_2, sw]
      exact tail
  · -- looked at
    have ez : ¬ cs_k (tK x s) = 0 := fun w => hL.2.2.2 ((cs_k_0 kd).mp w)
    have nz : ¬ nI (cs_k (tK x s)) = 0 := fun w => ez ((nE_0 (by omega)).mp w)
    have el : sp_look x s = s := by unfold sp_look; rw [if_neg hL.2.2.2]
    rw [el, if_pos h0] at hQ
    simp (disch := first | exact ev_ok_i _ | exact ev_ok_r _ | exact ev_ok_n | omega | assumption | decide) only [e_Re_look_0, e_Re_look_1, e_Re_look_4, e_Re_look_71, e_Re_look_72, e_Re_look_75, e_Re_look_78, e_Re_look_79, e_Re_look_82, e_Re_look_85, e_Re_look_86, ev_rm_n, ev_rm_i, ev_rm_r, ev_rm_l, ev_ok_n, ev_ok_i, ev_ok_r, Option.toList_some, Option.toList_none, List.cons_append, List.nil_append, true_and, and_true, true_or, or_true, reduceIte, Nat.reduceEqDiff, if_true, if_false, cg_Dp_rc, cg_Dp_text, cg_Dp_circuit, cg_Dp_reader, cg_Dp_current, cg_Dp_working, cg_Dp_saturator, cg_Dp_table, cg_Te_rc, cg_Te_bytes, cg_Te_length, cp_Te_length, cg_Ci_rc, cg_Ci_kinds, cg_Ci_firsts, cg_Ci_seconds, cg_Ci_inputVariables, cg_Ci_names, cg_Ci_nameLengths, cg_Ci_size, cp_Ci_size, cg_Ci_inputs, cp_Ci_inputs, cg_Re_rc, cg_Re_text, cg_Re_circuit, cg_Re_token, cp_Re_token, cg_Re_start, cp_Re_start, cg_Re_next, cp_Re_next, cg_Re_open, cp_Re_open, cg_Re_fault, cp_Re_fault, cg_Re_faultPlace, cp_Re_faultPlace, cg_Sa_rc, cg_Sa_circuit, cg_Sa_before, cg_Sa_trueBranches, cg_Sa_falseBranches, cg_Sa_tallies, cg_Sa_mostSteps, cp_Sa_mostSteps, cg_Sa_spent, cp_Sa_spent, cg_Ta_rc, cg_Ta_circuit, cg_Ta_words, cr_kinds, cw_kinds, cr_firsts, cw_firsts, cr_seconds, cw_seconds, cr_inputVariables, cw_inputVariables, cr_nameLengths, cw_nameLengths, cr_tallies, cw_tallies, cr_bytes, cw_bytes, cr_words, cw_words, cl_tallies, cr_names, cr_trueB, cr_falseB, cr_name, cw_name, cq_rc, cq_st, cq_size, cq_classes, cq_contradiction, cqp_size, cqp_classes, cqp_contradiction, cq_rd, cq_wr, cq_copy, cl_s_1, cl_s_2, cl_ar_1, cl_ar_2, cl_w_1, cl_w_2, hL.1, nz, h6', not_false_eq_true, not_true_eq_false]
    exact hQ τ ⟨hb, h6, h7, h8⟩ hL.2.1 (fun _ => hL) (cl_ke_rf _ _)
/-- a look, held against a token -/
theorem c_reSees (w : Nat) {W : Int32} (hW : W = nI w) (hX : cl_TX X B g) (hP : cl_P τ x s) (hok : sp_pok x n0 s) (h0 : pF s = 0) (hw : w < 2 ^ 31) (hw0 : ¬ w = 0) (hQ : ∀ τ2 (u : Int32), (u = W ↔ pF (sp_look x s) = 0 ∧ cs_k (tK x s) = w) → cl_P τ2 x (sp_look x s) → τ2.1 34 3 = nI (tS x s) → (pF (sp_look x s) = 0 → cl_L τ2 x s) → cl_ke cl_J4 τ τ2 → Q (some (.int u)) (cl_put B τ2 g)) : ev_C X (d + 6) m_Re_look [.ref (B + 34)] (cl_put B τ g) Q := by
  refine c_reLook hX hP hok h0 (fun τ2 q1 q2 q3 q4 => hQ τ2 _ ?_ q1 q2 q3 q4)
  have kl := cs_k_lt (tK x s)
  subst hW
  by_cases z : pF (sp_look x s) = 0
  · rw [if_pos z, nI_eq (by omega) hw]
    exact ⟨fun y => ⟨z, y⟩, fun y => y.2⟩
  · rw [if_neg z]
    exact ⟨fun y => absurd ((nE_0 hw).mp y.symm) hw0, fun y => absurd y.1 z⟩
theorem cl_P_take (hi : cI (pC s) ≤ 24) (hP : cl_P τ x s) (hL : cl_L τ x s) (h0 : pF s = 0) : cl_P (cl_s τ 34 2 0) x (sp_pass x s) := by
  obtain ⟨hb, h6, h7, h8⟩ := hP
  obtain ⟨h9, h5, -⟩ := h8 h0
  have k : cl_ke cl_J4 τ (cl_s τ 34 2 0) := cl_ke_s τ 2 0 rfl
  refine ⟨cl_b4 hi k hb, ?_, fun w => absurd h0 w, fun _ => ⟨?_, ?_, Or.inl ⟨?_, ?_⟩⟩⟩ <;> simp only [cl_s_1, if_true, upd_a, Nat.reduceEqDiff, if_false]
  · exact h6
  · exact h9
  · exact h5
  · exact hL.2.2.1
/-- one more is open, behind the token -/
theorem c_reOpens (hi : cI (pC s) ≤ 24) (hP : cl_P τ x s) (h0 : pF s = 0) (ho : pO s ≤ 40) {a : Nat} (hN : pO s = 40 → ∀ τ2, cl_P τ2 x (sp_fail s 3 a) → cl_ke cl_J4 τ τ2 → Q (some (.int 0)) (cl_put B τ2 g)) (hG : ¬ pO s = 40 → ∀ τ2, cl_P τ2 x (s.1, s.2.1, pO s + 1, pC s) → cl_ke cl_J4 τ τ2 → Q (some (.int 1)) (cl_put B τ2 g)) : ev_C X (d + 1) m_Re_opens [.ref (B + 34), .int (nI a)] (cl_put B τ g) Q := by
  show ev_R X (d + 1) m_Re_opens 0 [some (.ref (B + 34)), some (.int (nI a))] [] (cl_put B τ g) Q
  obtain ⟨hb, h6, h7, h8⟩ := hP
  obtain ⟨h9, h5, hor⟩ := h8 h0
  have h6' : τ.1 34 6 = 0 := by rw [h6, h0]; rfl
  have c : nI (pO s) < 40 ↔ pO s < 40 := nI_ltI (b := 40) (by omega) (by decide)
  simp (disch := first | exact ev_ok_i _ | exact ev_ok_r _ | exact ev_ok_n | omega | assumption | decide) only [e_Re_opens_0, e_Re_opens_1, e_Re_opens_4, e_Re_opens_6, ev_rm_n, ev_rm_i, ev_rm_r, ev_rm_l, ev_ok_n, ev_ok_i, ev_ok_r, Option.toList_some, Option.toList_none, List.cons_append, List.nil_append, true_and, and_true, true_or, or_true, reduceIte, Nat.reduceEqDiff, if_true, if_false, cg_Dp_rc, cg_Dp_text, cg_Dp_circuit, cg_Dp_reader, cg_Dp_current, cg_Dp_working, cg_Dp_saturator, cg_Dp_table, cg_Te_rc, cg_Te_bytes, cg_Te_length, cp_Te_length, cg_Ci_rc, cg_Ci_kinds, cg_Ci_firsts, cg_Ci_seconds, cg_Ci_inputVariables, cg_Ci_names, cg_Ci_nameLengths, cg_Ci_size, cp_Ci_size, cg_Ci_inputs, cp_Ci_inputs, cg_Re_rc, cg_Re_text, cg_Re_circuit, cg_Re_token, cp_Re_token, cg_Re_start, cp_Re_start, cg_Re_next, cp_Re_next, cg_Re_open, cp_Re_open, cg_Re_fault, cp_Re_fault, cg_Re_faultPlace, cp_Re_faultPlace, cg_Sa_rc, cg_Sa_circuit, cg_Sa_before, cg_Sa_trueBranches, cg_Sa_falseBranches, cg_Sa_tallies, cg_Sa_mostSteps, cp_Sa_mostSteps, cg_Sa_spent, cp_Sa_spent, cg_Ta_rc, cg_Ta_circuit, cg_Ta_words, cr_kinds, cw_kinds, cr_firsts, cw_firsts, cr_seconds, cw_seconds, cr_inputVariables, cw_inputVariables, cr_nameLengths, cw_nameLengths, cr_tallies, cw_tallies, cr_bytes, cw_bytes, cr_words, cw_words, cl_tallies, cr_names, cr_trueB, cr_falseB, cr_name, cw_name, cq_rc, cq_st, cq_size, cq_classes, cq_contradiction, cqp_size, cqp_classes, cqp_contradiction, cq_rd, cq_wr, cq_copy, cl_s_1, cl_s_2, cl_ar_1, cl_ar_2, cl_w_1, cl_w_2, h5, c]
  by_cases e : pO s = 40
  · have e' : ¬ pO s < 40 := by omega
    simp (disch := first | exact ev_ok_i _ | exact ev_ok_r _ | exact ev_ok_n | omega | assumption | decide) only [e', if_false, e_Re_opens_9, e_Re_opens_10, e_Re_opens_11, e_Re_opens_12, e_Re_opens_15, e_Re_opens_16, e_Re_opens_17, ev_rm_n, ev_rm_i, ev_rm_r, ev_rm_l, ev_ok_n, ev_ok_i, ev_ok_r, Option.toList_some, Option.toList_none, List.cons_append, List.nil_append, true_and, and_true, true_or, or_true, reduceIte, Nat.reduceEqDiff, if_true, if_false, cg_Dp_rc, cg_Dp_text, cg_Dp_circuit, cg_Dp_reader, cg_Dp_current, cg_Dp_working, cg_Dp_saturator, cg_Dp_table, cg_Te_rc, cg_Te_bytes, cg_Te_length, cp_Te_length, cg_Ci_rc, cg_Ci_kinds, cg_Ci_firsts, cg_Ci_seconds, cg_Ci_inputVariables, cg_Ci_names, cg_Ci_nameLengths, cg_Ci_size, cp_Ci_size, cg_Ci_inputs, cp_Ci_inputs, cg_Re_rc, cg_Re_text, cg_Re_circuit, cg_Re_token, cp_Re_token, cg_Re_start, cp_Re_start, cg_Re_next, cp_Re_next, cg_Re_open, cp_Re_open, cg_Re_fault, cp_Re_fault, cg_Re_faultPlace, cp_Re_faultPlace, cg_Sa_rc, cg_Sa_circuit, cg_Sa_before, cg_Sa_trueBranches, cg_Sa_falseBranches, cg_Sa_tallies, cg_Sa_mostSteps, cp_Sa_mostSteps, cg_Sa_spent, cp_Sa_spent, cg_Ta_rc, cg_Ta_circuit, cg_Ta_words, cr_kinds, cw_kinds, cr_firsts, cw_firsts, cr_seconds, cw_seconds, cr_inputVariables, cw_inputVariables, cr_nameLengths, cw_nameLengths, cr_tallies, cw_tallies, cr_bytes, cw_bytes, cr_words, cw_words, cl_tallies, cr_names, cr_trueB, cr_falseB, cr_name, cw_name, cq_rc, cq_st, cq_size, cq_classes, cq_contradiction, cqp_size, cqp_classes, cqp_contradiction, cq_rd, cq_wr, cq_copy, cl_s_1, cl_s_2, cl_ar_1, cl_ar_2, cl_w_1, cl_w_2, c_refuse, h6', if_true]
    have k : cl_ke cl_J4 τ (cl_s (cl_s τ 34 6 3) 34 7 (nI a)) := cl_ke_tr (cl_ke_s τ 6 _ rfl) (cl_ke_s _ 7 _ rfl)
    refine hN e _ (cl_P_fail hi hb h0 (by decide) k ?_ ?_) k
    · simp only [cl_s_1, if_true, upd_a, Nat.reduceEqDiff, if_false]; rfl
    · simp only [cl_s_1, if_true, upd_a]
  · have e' : pO s < 40 := by omega
    simp (disch := first | exact ev_ok_i _ | exact ev_ok_r _ | exact ev_ok_n | omega | assumption | decide) only [e', if_true, e_Re_opens_18, e_Re_opens_19, e_Re_opens_20, e_Re_opens_23, e_Re_opens_24, e_Re_opens_25, e_Re_opens_28, e_Re_opens_29, ev_rm_n, ev_rm_i, ev_rm_r, ev_rm_l, ev_ok_n, ev_ok_i, ev_ok_r, Option.toList_some, Option.toList_none, List.cons_append, List.nil_append, true_and, and_true, true_or, or_true, reduceIte, Nat.reduceEqDiff, if_true, if_false, cg_Dp_rc, cg_Dp_text, cg_Dp_circuit, cg_Dp_reader, cg_Dp_current, cg_Dp_working, cg_Dp_saturator, cg_Dp_table, cg_Te_rc, cg_Te_bytes, cg_Te_length, cp_Te_length, cg_Ci_rc, cg_Ci_kinds, cg_Ci_firsts, cg_Ci_seconds, cg_Ci_inputVariables, cg_Ci_names, cg_Ci_nameLengths, cg_Ci_size, cp_Ci_size, cg_Ci_inputs, cp_Ci_inputs, cg_Re_rc, cg_Re_text, cg_Re_circuit, cg_Re_token, cp_Re_token, cg_Re_start, cp_Re_start, cg_Re_next, cp_Re_next, cg_Re_open, cp_Re_open, cg_Re_fault, cp_Re_fault, cg_Re_faultPlace, cp_Re_faultPlace, cg_Sa_rc, cg_Sa_circuit, cg_Sa_before, cg_Sa_trueBranches, cg_Sa_falseBranches, cg_Sa_tallies, cg_Sa_mostSteps, cp_Sa_mostSteps, cg_Sa_spent, cp_Sa_spent, cg_Ta_rc, cg_Ta_circuit, cg_Ta_words, cr_kinds, cw_kinds, cr_firsts, cw_firsts, cr_seconds, cw_seconds, cr_inputVariables, cw_inputVariables, cr_nameLengths, cw_nameLengths, cr_tallies, cw_tallies, cr_bytes, cw_bytes, cr_words, cw_words, cl_tallies, cr_names, cr_trueB, cr_falseB, cr_name, cw_name, cq_rc, cq_st, cq_size, cq_classes, cq_contradiction, cqp_size, cqp_classes, cqp_contradiction, cq_rd, cq_wr, cq_copy, cl_s_1, cl_s_2, cl_ar_1, cl_ar_2, cl_w_1, cl_w_2, h5, nI_1]
    have k : cl_ke cl_J4 τ (cl_s τ 34 5 (nI (pO s + 1))) := cl_ke_s τ 5 _ rfl
    refine hG e _ ⟨cl_b4 hi k hb, ?_, fun w => absurd h0 w, fun _ => ⟨?_, ?_, ?_⟩⟩ k
    · simp only [cl_s_1, if_true, upd_a, Nat.reduceEqDiff, if_false]; exact h6
    · simp only [cl_s_1, if_true, upd_a, Nat.reduceEqDiff, if_false]; exact h9
    · simp only [cl_s_1, if_true, upd_a]
    · unfold cl_L
      simp only [cl_s_1, if_true, upd_a, Nat.reduceEqDiff, if_false]
      exact hor
/-- one less is open -/
theorem cl_P_cls {τ : cl_S} {s : sp_P} (hi : cI (pC s) ≤ 24) (hP : cl_P τ x s) (h1 : pF s = 0 → 1 ≤ pO s) (v : Int32) (hv : pF s = 0 → v = nI (pO s - 1)) : cl_P (cl_s τ 34 5 v) x (sp_cls1 s) := by
  obtain ⟨hb, h6, h7, h8⟩ := hP
  have k : cl_ke cl_J4 τ (cl_s τ 34 5 v) := cl_ke_s τ 5 _ rfl
  refine ⟨cl_b4 hi k hb, ?_, fun w => ?_, fun z => ⟨?_, ?_, ?_⟩⟩
  · simp only [cl_s_1, if_true, upd_a, Nat.reduceEqDiff, if_false]; exact h6
  · simp only [cl_s_1, if_true, upd_a, Nat.reduceEqDiff, if_false]; exact h7 w
  · simp only [cl_s_1, if_true, upd_a, Nat.reduceEqDiff, if_false]; exact (h8 z).1
  · simp only [cl_s_1, if_true, upd_a]; exact hv z
  · unfold cl_L
    simp only [cl_s_1, if_true, upd_a, Nat.reduceEqDiff, if_false]
    exact (h8 z).2.2
/-- the class's number of a level's sign -/
def cs_sn (lv : Nat) : Nat := if lv = 0 then 12 else if lv = 1 then 11 else if lv = 2 then 10 else if lv = 3 then 9 else 8
theorem c_combineF {u v w : Int32} {a : Int32} (h : ¬ τ.1 34 6 = 0) : ev_C X d m_Re_combine [.ref (B + 34), .int u, .int a, .int v, .int w] (cl_put B τ g) Q ↔ Q (some (.int 0)) (cl_put B τ g) := by
  show ev_R X d m_Re_combine 0 [some (.ref (B + 34)), some (.int u), some (.int a), some (.int v), some (.int w), none, none] [] (cl_put B τ g) Q ↔ _
  simp (disch := first | exact ev_ok_i _ | exact ev_ok_r _ | exact ev_ok_n | omega | assumption | decide) only [e_Re_combine_0, e_Re_combine_1, e_Re_combine_4, e_Re_combine_7, e_Re_combine_8, ev_rm_n, ev_rm_i, ev_rm_r, ev_rm_l, ev_ok_n, ev_ok_i, ev_ok_r, Option.toList_some, Option.toList_none, List.cons_append, List.nil_append, true_and, and_true, true_or, or_true, reduceIte, Nat.reduceEqDiff, if_true, if_false, cg_Dp_rc, cg_Dp_text, cg_Dp_circuit, cg_Dp_reader, cg_Dp_current, cg_Dp_working, cg_Dp_saturator, cg_Dp_table, cg_Te_rc, cg_Te_bytes, cg_Te_length, cp_Te_length, cg_Ci_rc, cg_Ci_kinds, cg_Ci_firsts, cg_Ci_seconds, cg_Ci_inputVariables, cg_Ci_names, cg_Ci_nameLengths, cg_Ci_size, cp_Ci_size, cg_Ci_inputs, cp_Ci_inputs, cg_Re_rc, cg_Re_text, cg_Re_circuit, cg_Re_token, cp_Re_token, cg_Re_start, cp_Re_start, cg_Re_next, cp_Re_next, cg_Re_open, cp_Re_open, cg_Re_fault, cp_Re_fault, cg_Re_faultPlace, cp_Re_faultPlace, cg_Sa_rc, cg_Sa_circuit, cg_Sa_before, cg_Sa_trueBranches, cg_Sa_falseBranches, cg_Sa_tallies, cg_Sa_mostSteps, cp_Sa_mostSteps, cg_Sa_spent, cp_Sa_spent, cg_Ta_rc, cg_Ta_circuit, cg_Ta_words, cr_kinds, cw_kinds, cr_firsts, cw_firsts, cr_seconds, cw_seconds, cr_inputVariables, cw_inputVariables, cr_nameLengths, cw_nameLengths, cr_tallies, cw_tallies, cr_bytes, cw_bytes, cr_words, cw_words, cl_tallies, cr_names, cr_trueB, cr_falseB, cr_name, cw_name, cq_rc, cq_st, cq_size, cq_classes, cq_contradiction, cqp_size, cqp_classes, cqp_contradiction, cq_rd, cq_wr, cq_copy, cl_s_1, cl_s_2, cl_ar_1, cl_ar_2, cl_w_1, cl_w_2, h]
/-- a gate made or not: the state -/
theorem cl_P_gt {τ2 : cl_S} {k a b t at' : Nat} (hP : cl_P τ x s) (h0 : pF s = 0) (hc : cl_cR τ2 (sp_gt (pC s) k a b).2) (hk : cl_ke cl_JC τ τ2) {l : Nat} (hl : (sp_gt (pC s) k a b).1 = some l) : cl_P τ2 x (sp_cb k a b t at' s).2 ∧ (sp_cb k a b t at' s).1 = l ^^^ t := by
  obtain ⟨hb, h6, h7, h8⟩ := hP
  have e34 : τ2.1 34 = τ.1 34 := hk.1 34 (by decide)
  unfold sp_cb
  rw [hl]
  refine ⟨⟨⟨hc, cl_xR_ke hk (by decide) (by decide) hb.2⟩, ?_, fun w => ?_, fun z => ?_⟩, rfl⟩
  · rw [e34]; exact h6
  · rw [e34]; exact h7 w
  · unfold cl_L
    rw [e34]
    exact h8 z
theorem c_combine {lv v w a : Nat} (hlv : lv < 5) (hP : cl_P τ x s) (hok : sp_pok x n0 s) (h0 : pF s = 0) (hv : v < 2 * cN (pC s)) (hw : w < 2 * cN (pC s)) (hQ : ∀ τ2 u, cl_P τ2 x (sp_cmb lv v w a s).2 → (pF (sp_cmb lv v w a s).2 = 0 → u = nI (sp_cmb lv v w a s).1) → cl_ke cl_JR τ τ2 → Q (some (.int u)) (cl_put B τ2 g)) : ev_C X (d + 3) m_Re_combine [.ref (B + 34), .int (nI (cs_sn lv)), .int (nI a), .int (nI v), .int (nI w)] (cl_put B τ g) Q := by
  show ev_R X (d + 3) m_Re_combine 0 [some (.ref (B + 34)), some (.int (nI (cs_sn lv))), some (.int (nI a)), some (.int (nI v)), some (.int (nI w)), none, none] [] (cl_put B τ g) Q
  have h6' : τ.1 34 6 = 0 := by rw [hP.2.1, h0]; rfl
  have hn := hok.1.1.2.1
  have hi24 := hok.1.1.2.2
  have hv1 := xor1_lt hv
  have hw1 := xor1_lt hw
  simp (disch := first | exact ev_ok_i _ | exact ev_ok_r _ | exact ev_ok_n | omega | assumption | decide) only [e_Re_combine_0, e_Re_combine_1, e_Re_combine_4, e_Re_combine_7, e_Re_combine_8, e_Re_combine_9, e_Re_combine_10, e_Re_combine_11, e_Re_combine_12, e_Re_combine_14, ev_rm_n, ev_rm_i, ev_rm_r, ev_rm_l, ev_ok_n, ev_ok_i, ev_ok_r, Option.toList_some, Option.toList_none, List.cons_append, List.nil_append, true_and, and_true, true_or, or_true, reduceIte, Nat.reduceEqDiff, if_true, if_false, cg_Dp_rc, cg_Dp_text, cg_Dp_circuit, cg_Dp_reader, cg_Dp_current, cg_Dp_working, cg_Dp_saturator, cg_Dp_table, cg_Te_rc, cg_Te_bytes, cg_Te_length, cp_Te_length, cg_Ci_rc, cg_Ci_kinds, cg_Ci_firsts, cg_Ci_seconds, cg_Ci_inputVariables, cg_Ci_names, cg_Ci_nameLengths, cg_Ci_size, cp_Ci_size, cg_Ci_inputs, cp_Ci_inputs, cg_Re_rc, cg_Re_text, cg_Re_circuit, cg_Re_token, cp_Re_token, cg_Re_start, cp_Re_start, cg_Re_next, cp_Re_next, cg_Re_open, cp_Re_open, cg_Re_fault, cp_Re_fault, cg_Re_faultPlace, cp_Re_faultPlace, cg_Sa_rc, cg_Sa_circuit, cg_Sa_before, cg_Sa_trueBranches, cg_Sa_falseBranches, cg_Sa_tallies, cg_Sa_mostSteps, cp_Sa_mostSteps, cg_Sa_spent, cp_Sa_spent, cg_Ta_rc, cg_Ta_circuit, cg_Ta_words, cr_kinds, cw_kinds, cr_firsts, cw_firsts, cr_seconds, cw_seconds, cr_inputVariables, cw_inputVariables, cr_nameLengths, cw_nameLengths, cr_tallies, cw_tallies, cr_bytes, cw_bytes, cr_words, cw_words, cl_tallies, cr_names, cr_trueB, cr_falseB, cr_name, cw_name, cq_rc, cq_st, cq_size, cq_classes, cq_contradiction, cqp_size, cqp_classes, cqp_contradiction, cq_rd, cq_wr, cq_copy, cl_s_1, cl_s_2, cl_ar_1, cl_ar_2, cl_w_1, cl_w_2, h6', not_true_eq_false]
  -- what is done behind the gate
  have after : ∀ (k p q t : Nat), (k = 2 ∨ k = 3) → p < 2 * cN (pC s) → q < 2 * cN (pC s) → sp_cmb lv v w a s = sp_cb k p q t a s → t = (if lv = 1 ∨ lv = 2 ∨ lv = 3 then 1 else 0) → ∀ τ2, cl_cR τ2 (sp_gt (pC s) k p q).2 → cl_ke cl_JC τ τ2 → ev_R X (d + 3) m_Re_combine 17 [some (.ref (B + 34)), some (.int (nI (cs_sn lv))), some (.int (nI a)), some (.int (nI v)), some (.int (nI w)), none, none] [.int (match (sp_gt (pC s) k p q).1 with | some l => nI l | none => -1)] (cl_put B τ2 g) Q := by
    intro k p q t hk hp hq hcm ht τ2 hc2 hk2
    have e34 : τ2.1 34 = τ.1 34 := hk2.1 34 (by decide)
    rw [hcm] at hQ
    obtain ⟨g1, g2, g3⟩ := sp_gt_ok hok.1 hk hp hq
    cases hg : (sp_gt (pC s) k p q).1 with
    | none =>
      have hm : ¬ ((-1 : Int32) = -1) = False := by simp
      simp (disch := first | exact ev_ok_i _ | exact ev_ok_r _ | exact ev_ok_n | omega | assumption | decide) only [e_Re_combine_17, e_Re_combine_19, e_Re_combine_21, e_Re_combine_22, e_Re_combine_25, e_Re_combine_26, e_Re_combine_27, e_Re_combine_28, e_Re_combine_31, ev_rm_n, ev_rm_i, ev_rm_r, ev_rm_l, ev_ok_n, ev_ok_i, ev_ok_r, Option.toList_some, Option.toList_none, List.cons_append, List.nil_append, true_and, and_true, true_or, or_true, reduceIte, Nat.reduceEqDiff, if_true, if_false, cg_Dp_rc, cg_Dp_text, cg_Dp_circuit, cg_Dp_reader, cg_Dp_current, cg_Dp_working, cg_Dp_saturator, cg_Dp_table, cg_Te_rc, cg_Te_bytes, cg_Te_length, cp_Te_length, cg_Ci_rc, cg_Ci_kinds, cg_Ci_firsts, cg_Ci_seconds, cg_Ci_inputVariables, cg_Ci_names, cg_Ci_nameLengths, cg_Ci_size, cp_Ci_size, cg_Ci_inputs, cp_Ci_inputs, cg_Re_rc, cg_Re_text, cg_Re_circuit, cg_Re_token, cp_Re_token, cg_Re_start, cp_Re_start, cg_Re_next, cp_Re_next, cg_Re_open, cp_Re_open, cg_Re_fault, cp_Re_fault, cg_Re_faultPlace, cp_Re_faultPlace, cg_Sa_rc, cg_Sa_circuit, cg_Sa_before, cg_Sa_trueBranches, cg_Sa_falseBranches, cg_Sa_tallies, cg_Sa_mostSteps, cp_Sa_mostSteps, cg_Sa_spent, cp_Sa_spent, cg_Ta_rc, cg_Ta_circuit, cg_Ta_words, cr_kinds, cw_kinds, cr_firsts, cw_firsts, cr_seconds, cw_seconds, cr_inputVariables, cw_inputVariables, cr_nameLengths, cw_nameLengths, cr_tallies, cw_tallies, cr_bytes, cw_bytes, cr_words, cw_words, cl_tallies, cr_names, cr_trueB, cr_falseB, cr_name, cw_name, cq_rc, cq_st, cq_size, cq_classes, cq_contradiction, cqp_size, cqp_classes, cqp_contradiction, cq_rd, cq_wr, cq_copy, cl_s_1, cl_s_2, cl_ar_1, cl_ar_2, cl_w_1, cl_w_2, c_refuse, not_true_eq_false, e34, h6', if_true]
      have es : (sp_cb k p q t a s).2 = sp_fail (s.1, s.2.1, pO s, (sp_gt (pC s) k p q).2) 5 a := by
        unfold sp_cb
        rw [hg]
      rw [es] at hQ
      have kk : cl_ke cl_J4 τ2 (cl_s (cl_s τ2 34 6 5) 34 7 (nI a)) := cl_ke_tr (cl_ke_s τ2 6 _ rfl) (cl_ke_s _ 7 _ rfl)
      have hf : ¬ pF (sp_fail (s.1, s.2.1, pO s, (sp_gt (pC s) k p q).2) 5 a) = 0 := sp_fail_f (by decide)
      refine hQ _ 0 (cl_P_fail (s := (s.1, s.2.1, pO s, (sp_gt (pC s) k p q).2)) g1.1.2.2 ⟨hc2, cl_xR_ke hk2 (by decide) (by decide) hP.1.2⟩ h0 (by decide) kk ?_ ?_) (fun z => absurd z hf) (cl_ke_tr (cl_ke_mo hk2 (fun i z => cl_JC_R z)) (cl_ke_mo kk (fun i z => cl_J4_R z)))
      · simp only [cl_s_1, if_true, upd_a, Nat.reduceEqDiff, if_false]; rfl
      · simp only [cl_s_1, if_true, upd_a]
    | some l =>
      have ll := sp_gt_lt (k := k) (a := p) (b := q) hn l hg
      obtain ⟨r1, r2⟩ := cl_P_gt (t := t) (at' := a) hP h0 hc2 hk2 hg
      have hnm : ¬ nI l = -1 := fun z => cs_m1 (by omega) z.symm
      have hfin := fun u (hu : u = nI (l ^^^ t)) => hQ τ2 u r1 (fun _ => by rw [r2, hu]) (cl_ke_mo hk2 (fun i z => cl_JC_R z))
      simp (disch := first | exact ev_ok_i _ | exact ev_ok_r _ | exact ev_ok_n | omega | assumption | decide) only [e_Re_combine_17, e_Re_combine_19, e_Re_combine_21, e_Re_combine_22, ev_rm_n, ev_rm_i, ev_rm_r, ev_rm_l, ev_ok_n, ev_ok_i, ev_ok_r, Option.toList_some, Option.toList_none, List.cons_append, List.nil_append, true_and, and_true, true_or, or_true, reduceIte, Nat.reduceEqDiff, if_true, if_false, hnm, not_false_eq_true, if_true]
      have e10 : nI (cs_sn lv) = 10 ↔ lv = 2 := by
        have h5 : lv = 0 ∨ lv = 1 ∨ lv = 2 ∨ lv = 3 ∨ lv = 4 := by omega
        rcases h5 with e | e | e | e | e <;> subst e <;> decide
      have e11 : nI (cs_sn lv) = 11 ↔ lv = 1 := by
        have h5 : lv = 0 ∨ lv = 1 ∨ lv = 2 ∨ lv = 3 ∨ lv = 4 := by omega
        rcases h5 with e | e | e | e | e <;> subst e <;> decide
      have e9 : nI (cs_sn lv) = 9 ↔ lv = 3 := by
        have h5 : lv = 0 ∨ lv = 1 ∨ lv = 2 ∨ lv = 3 ∨ lv = 4 := by omega
        rcases h5 with e | e | e | e | e <;> subst e <;> decide
      have i10 : ¬ (1 : Int32) = 0 := by decide
      simp (disch := first | exact ev_ok_i _ | exact ev_ok_r _ | exact ev_ok_n | omega | assumption | decide) only [e_Re_combine_32, e_Re_combine_33, e_Re_combine_35, e_Re_combine_38, e_Re_combine_39, e_Re_combine_41, e_Re_combine_44, e_Re_combine_45, e_Re_combine_47, e_Re_combine_50, e_Re_combine_51, e_Re_combine_54, e_Re_combine_55, e_Re_combine_57, e_Re_combine_59, e_Re_combine_62, e_Re_combine_64, e_Re_combine_65, e_Re_combine_66, e_Re_combine_69, e_Re_combine_71, ev_rm_n, ev_rm_i, ev_rm_r, ev_rm_l, ev_ok_n, ev_ok_i, ev_ok_r, Option.toList_some, Option.toList_none, List.cons_append, List.nil_append, true_and, and_true, true_or, or_true, reduceIte, Nat.reduceEqDiff, if_true, if_false, e10, e11, e9, nL_x1, i10, if_true, if_false]
      by_cases c2 : lv = 2
      · rw [if_pos (by omega)] at ht
        simp only [c2, if_true]
        exact hfin _ (by rw [ht])
      · by_cases c1 : lv = 1
        · rw [if_pos (by omega)] at ht
          simp only [c2, c1, if_true, if_false]
          exact hfin _ (by rw [ht])
        · by_cases c3 : lv = 3
          · rw [if_pos (by omega)] at ht
            simp only [c2, c1, c3, if_true, if_false, not_true_eq_false]
            exact hfin _ (by rw [ht])
          · rw [if_neg (by omega)] at ht
            simp only [c2, c1, c3, if_true, if_false, not_false_eq_true]
            exact hfin _ (by rw [ht, Nat.xor_zero])
  show ev_R X (d + 2) m_Re_gateFor 0 [some (.ref (B + 34)), some (.int (nI (cs_sn lv))), some (.int (nI v)), some (.int (nI w))] [] (cl_put B τ g) _
  have h5 : lv = 0 ∨ lv = 1 ∨ lv = 2 ∨ lv = 3 ∨ lv = 4 := by omega
  rcases h5 with e | e | e | e | e
  · have es : nI (cs_sn lv) = 12 := by rw [e]; rfl
    rw [es] at after ⊢
    simp (disch := first | exact ev_ok_i _ | exact ev_ok_r _ | exact ev_ok_n | omega | assumption | decide) only [e_Re_gateFor_0, ev_rm_n, ev_rm_i, ev_rm_r, ev_rm_l, ev_ok_n, ev_ok_i, ev_ok_r, Option.toList_some, Option.toList_none, List.cons_append, List.nil_append, true_and, and_true, true_or, or_true, reduceIte, Nat.reduceEqDiff, if_true, if_false]
    rw [e_Re_gateFor_1]
    simp (disch := first | exact ev_ok_i _ | exact ev_ok_r _ | exact ev_ok_n | omega | assumption | decide) only [if_neg (show ¬ (12 : Int32) = 8 by decide), if_neg (show ¬ (12 : Int32) = 9 by decide), if_neg (show ¬ (12 : Int32) = 10 by decide), if_neg (show ¬ (12 : Int32) = 11 by decide), e_Re_gateFor_71, e_Re_gateFor_72, e_Re_gateFor_75, e_Re_gateFor_76, e_Re_gateFor_77, e_Re_gateFor_78, ev_rm_n, ev_rm_i, ev_rm_r, ev_rm_l, ev_ok_n, ev_ok_i, ev_ok_r, Option.toList_some, Option.toList_none, List.cons_append, List.nil_append, true_and, and_true, true_or, or_true, reduceIte, Nat.reduceEqDiff, if_true, if_false, cg_Dp_rc, cg_Dp_text, cg_Dp_circuit, cg_Dp_reader, cg_Dp_current, cg_Dp_working, cg_Dp_saturator, cg_Dp_table, cg_Te_rc, cg_Te_bytes, cg_Te_length, cp_Te_length, cg_Ci_rc, cg_Ci_kinds, cg_Ci_firsts, cg_Ci_seconds, cg_Ci_inputVariables, cg_Ci_names, cg_Ci_nameLengths, cg_Ci_size, cp_Ci_size, cg_Ci_inputs, cp_Ci_inputs, cg_Re_rc, cg_Re_text, cg_Re_circuit, cg_Re_token, cp_Re_token, cg_Re_start, cp_Re_start, cg_Re_next, cp_Re_next, cg_Re_open, cp_Re_open, cg_Re_fault, cp_Re_fault, cg_Re_faultPlace, cp_Re_faultPlace, cg_Sa_rc, cg_Sa_circuit, cg_Sa_before, cg_Sa_trueBranches, cg_Sa_falseBranches, cg_Sa_tallies, cg_Sa_mostSteps, cp_Sa_mostSteps, cg_Sa_spent, cp_Sa_spent, cg_Ta_rc, cg_Ta_circuit, cg_Ta_words, cr_kinds, cw_kinds, cr_firsts, cw_firsts, cr_seconds, cw_seconds, cr_inputVariables, cw_inputVariables, cr_nameLengths, cw_nameLengths, cr_tallies, cw_tallies, cr_bytes, cw_bytes, cr_words, cw_words, cl_tallies, cr_names, cr_trueB, cr_falseB, cr_name, cw_name, cq_rc, cq_st, cq_size, cq_classes, cq_contradiction, cqp_size, cqp_classes, cqp_contradiction, cq_rd, cq_wr, cq_copy, cl_s_1, cl_s_2, cl_ar_1, cl_ar_2, cl_w_1, cl_w_2]
    refine c_ciGate (k := 3) hP.1.1 hi24 (by decide) (by omega) (by omega) (fun τ2 q1 q2 => ?_)
    simp (disch := first | exact ev_ok_i _ | exact ev_ok_r _ | exact ev_ok_n | omega | assumption | decide) only [e_Re_gateFor_81, ev_rm_n, ev_rm_i, ev_rm_r, ev_rm_l, ev_ok_n, ev_ok_i, ev_ok_r, Option.toList_some, Option.toList_none, List.cons_append, List.nil_append, true_and, and_true, true_or, or_true, reduceIte, Nat.reduceEqDiff, if_true, if_false]
    exact after 3 v w 0 (Or.inr rfl) hv hw (by rw [e]; rfl) (by rw [e]; rfl) τ2 q1 q2
  · have es : nI (cs_sn lv) = 11 := by rw [e]; rfl
    rw [es] at after ⊢
    simp (disch := first | exact ev_ok_i _ | exact ev_ok_r _ | exact ev_ok_n | omega | assumption | decide) only [e_Re_gateFor_0, ev_rm_n, ev_rm_i, ev_rm_r, ev_rm_l, ev_ok_n, ev_ok_i, ev_ok_r, Option.toList_some, Option.toList_none, List.cons_append, List.nil_append, true_and, and_true, true_or, or_true, reduceIte, Nat.reduceEqDiff, if_true, if_false]
    rw [e_Re_gateFor_1]
    simp (disch := first | exact ev_ok_i _ | exact ev_ok_r _ | exact ev_ok_n | omega | assumption | decide) only [if_neg (show ¬ (11 : Int32) = 8 by decide), if_neg (show ¬ (11 : Int32) = 9 by decide), if_neg (show ¬ (11 : Int32) = 10 by decide), if_true, e_Re_gateFor_58, e_Re_gateFor_59, e_Re_gateFor_62, e_Re_gateFor_63, e_Re_gateFor_64, e_Re_gateFor_65, e_Re_gateFor_66, e_Re_gateFor_67, ev_rm_n, ev_rm_i, ev_rm_r, ev_rm_l, ev_ok_n, ev_ok_i, ev_ok_r, Option.toList_some, Option.toList_none, List.cons_append, List.nil_append, true_and, and_true, true_or, or_true, reduceIte, Nat.reduceEqDiff, if_true, if_false, cg_Dp_rc, cg_Dp_text, cg_Dp_circuit, cg_Dp_reader, cg_Dp_current, cg_Dp_working, cg_Dp_saturator, cg_Dp_table, cg_Te_rc, cg_Te_bytes, cg_Te_length, cp_Te_length, cg_Ci_rc, cg_Ci_kinds, cg_Ci_firsts, cg_Ci_seconds, cg_Ci_inputVariables, cg_Ci_names, cg_Ci_nameLengths, cg_Ci_size, cp_Ci_size, cg_Ci_inputs, cp_Ci_inputs, cg_Re_rc, cg_Re_text, cg_Re_circuit, cg_Re_token, cp_Re_token, cg_Re_start, cp_Re_start, cg_Re_next, cp_Re_next, cg_Re_open, cp_Re_open, cg_Re_fault, cp_Re_fault, cg_Re_faultPlace, cp_Re_faultPlace, cg_Sa_rc, cg_Sa_circuit, cg_Sa_before, cg_Sa_trueBranches, cg_Sa_falseBranches, cg_Sa_tallies, cg_Sa_mostSteps, cp_Sa_mostSteps, cg_Sa_spent, cp_Sa_spent, cg_Ta_rc, cg_Ta_circuit, cg_Ta_words, cr_kinds, cw_kinds, cr_firsts, cw_firsts, cr_seconds, cw_seconds, cr_inputVariables, cw_inputVariables, cr_nameLengths, cw_nameLengths, cr_tallies, cw_tallies, cr_bytes, cw_bytes, cr_words, cw_words, cl_tallies, cr_names, cr_trueB, cr_falseB, cr_name, cw_name, cq_rc, cq_st, cq_size, cq_classes, cq_contradiction, cqp_size, cqp_classes, cqp_contradiction, cq_rd, cq_wr, cq_copy, cl_s_1, cl_s_2, cl_ar_1, cl_ar_2, cl_w_1, cl_w_2, nL_x1]
    refine c_ciGate (k := 2) hP.1.1 hi24 (by decide) (by omega) (by omega) (fun τ2 q1 q2 => ?_)
    simp (disch := first | exact ev_ok_i _ | exact ev_ok_r _ | exact ev_ok_n | omega | assumption | decide) only [e_Re_gateFor_70, ev_rm_n, ev_rm_i, ev_rm_r, ev_rm_l, ev_ok_n, ev_ok_i, ev_ok_r, Option.toList_some, Option.toList_none, List.cons_append, List.nil_append, true_and, and_true, true_or, or_true, reduceIte, Nat.reduceEqDiff, if_true, if_false]
    exact after 2 v (w ^^^ 1) 1 (Or.inl rfl) hv hw1 (by rw [e]; rfl) (by rw [e]; rfl) τ2 q1 q2
  · have es : nI (cs_sn lv) = 10 := by rw [e]; rfl
    rw [es] at after ⊢
    simp (disch := first | exact ev_ok_i _ | exact ev_ok_r _ | exact ev_ok_n | omega | assumption | decide) only [e_Re_gateFor_0, ev_rm_n, ev_rm_i, ev_rm_r, ev_rm_l, ev_ok_n, ev_ok_i, ev_ok_r, Option.toList_some, Option.toList_none, List.cons_append, List.nil_append, true_and, and_true, true_or, or_true, reduceIte, Nat.reduceEqDiff, if_true, if_false]
    rw [e_Re_gateFor_1]
    simp (disch := first | exact ev_ok_i _ | exact ev_ok_r _ | exact ev_ok_n | omega | assumption | decide) only [if_neg (show ¬ (10 : Int32) = 8 by decide), if_neg (show ¬ (10 : Int32) = 9 by decide), if_true, e_Re_gateFor_43, e_Re_gateFor_44, e_Re_gateFor_47, e_Re_gateFor_48, e_Re_gateFor_49, e_Re_gateFor_50, e_Re_gateFor_51, e_Re_gateFor_52, e_Re_gateFor_53, e_Re_gateFor_54, ev_rm_n, ev_rm_i, ev_rm_r, ev_rm_l, ev_ok_n, ev_ok_i, ev_ok_r, Option.toList_some, Option.toList_none, List.cons_append, List.nil_append, true_and, and_true, true_or, or_true, reduceIte, Nat.reduceEqDiff, if_true, if_false, cg_Dp_rc, cg_Dp_text, cg_Dp_circuit, cg_Dp_reader, cg_Dp_current, cg_Dp_working, cg_Dp_saturator, cg_Dp_table, cg_Te_rc, cg_Te_bytes, cg_Te_length, cp_Te_length, cg_Ci_rc, cg_Ci_kinds, cg_Ci_firsts, cg_Ci_seconds, cg_Ci_inputVariables, cg_Ci_names, cg_Ci_nameLengths, cg_Ci_size, cp_Ci_size, cg_Ci_inputs, cp_Ci_inputs, cg_Re_rc, cg_Re_text, cg_Re_circuit, cg_Re_token, cp_Re_token, cg_Re_start, cp_Re_start, cg_Re_next, cp_Re_next, cg_Re_open, cp_Re_open, cg_Re_fault, cp_Re_fault, cg_Re_faultPlace, cp_Re_faultPlace, cg_Sa_rc, cg_Sa_circuit, cg_Sa_before, cg_Sa_trueBranches, cg_Sa_falseBranches, cg_Sa_tallies, cg_Sa_mostSteps, cp_Sa_mostSteps, cg_Sa_spent, cp_Sa_spent, cg_Ta_rc, cg_Ta_circuit, cg_Ta_words, cr_kinds, cw_kinds, cr_firsts, cw_firsts, cr_seconds, cw_seconds, cr_inputVariables, cw_inputVariables, cr_nameLengths, cw_nameLengths, cr_tallies, cw_tallies, cr_bytes, cw_bytes, cr_words, cw_words, cl_tallies, cr_names, cr_trueB, cr_falseB, cr_name, cw_name, cq_rc, cq_st, cq_size, cq_classes, cq_contradiction, cqp_size, cqp_classes, cqp_contradiction, cq_rd, cq_wr, cq_copy, cl_s_1, cl_s_2, cl_ar_1, cl_ar_2, cl_w_1, cl_w_2, nL_x1]
    refine c_ciGate (k := 2) hP.1.1 hi24 (by decide) (by omega) (by omega) (fun τ2 q1 q2 => ?_)
    simp (disch := first | exact ev_ok_i _ | exact ev_ok_r _ | exact ev_ok_n | omega | assumption | decide) only [e_Re_gateFor_57, ev_rm_n, ev_rm_i, ev_rm_r, ev_rm_l, ev_ok_n, ev_ok_i, ev_ok_r, Option.toList_some, Option.toList_none, List.cons_append, List.nil_append, true_and, and_true, true_or, or_true, reduceIte, Nat.reduceEqDiff, if_true, if_false]
    exact after 2 (v ^^^ 1) (w ^^^ 1) 1 (Or.inl rfl) hv1 hw1 (by rw [e]; rfl) (by rw [e]; rfl) τ2 q1 q2
  · have es : nI (cs_sn lv) = 9 := by rw [e]; rfl
    rw [es] at after ⊢
    simp (disch := first | exact ev_ok_i _ | exact ev_ok_r _ | exact ev_ok_n | omega | assumption | decide) only [e_Re_gateFor_0, ev_rm_n, ev_rm_i, ev_rm_r, ev_rm_l, ev_ok_n, ev_ok_i, ev_ok_r, Option.toList_some, Option.toList_none, List.cons_append, List.nil_append, true_and, and_true, true_or, or_true, reduceIte, Nat.reduceEqDiff, if_true, if_false]
    rw [e_Re_gateFor_1]
    simp (disch := first | exact ev_ok_i _ | exact ev_ok_r _ | exact ev_ok_n | omega | assumption | decide) only [if_neg (show ¬ (9 : Int32) = 8 by decide), if_true, e_Re_gateFor_71, e_Re_gateFor_72, e_Re_gateFor_75, e_Re_gateFor_76, e_Re_gateFor_77, e_Re_gateFor_78, ev_rm_n, ev_rm_i, ev_rm_r, ev_rm_l, ev_ok_n, ev_ok_i, ev_ok_r, Option.toList_some, Option.toList_none, List.cons_append, List.nil_append, true_and, and_true, true_or, or_true, reduceIte, Nat.reduceEqDiff, if_true, if_false, cg_Dp_rc, cg_Dp_text, cg_Dp_circuit, cg_Dp_reader, cg_Dp_current, cg_Dp_working, cg_Dp_saturator, cg_Dp_table, cg_Te_rc, cg_Te_bytes, cg_Te_length, cp_Te_length, cg_Ci_rc, cg_Ci_kinds, cg_Ci_firsts, cg_Ci_seconds, cg_Ci_inputVariables, cg_Ci_names, cg_Ci_nameLengths, cg_Ci_size, cp_Ci_size, cg_Ci_inputs, cp_Ci_inputs, cg_Re_rc, cg_Re_text, cg_Re_circuit, cg_Re_token, cp_Re_token, cg_Re_start, cp_Re_start, cg_Re_next, cp_Re_next, cg_Re_open, cp_Re_open, cg_Re_fault, cp_Re_fault, cg_Re_faultPlace, cp_Re_faultPlace, cg_Sa_rc, cg_Sa_circuit, cg_Sa_before, cg_Sa_trueBranches, cg_Sa_falseBranches, cg_Sa_tallies, cg_Sa_mostSteps, cp_Sa_mostSteps, cg_Sa_spent, cp_Sa_spent, cg_Ta_rc, cg_Ta_circuit, cg_Ta_words, cr_kinds, cw_kinds, cr_firsts, cw_firsts, cr_seconds, cw_seconds, cr_inputVariables, cw_inputVariables, cr_nameLengths, cw_nameLengths, cr_tallies, cw_tallies, cr_bytes, cw_bytes, cr_words, cw_words, cl_tallies, cr_names, cr_trueB, cr_falseB, cr_name, cw_name, cq_rc, cq_st, cq_size, cq_classes, cq_contradiction, cqp_size, cqp_classes, cqp_contradiction, cq_rd, cq_wr, cq_copy, cl_s_1, cl_s_2, cl_ar_1, cl_ar_2, cl_w_1, cl_w_2]
    refine c_ciGate (k := 3) hP.1.1 hi24 (by decide) (by omega) (by omega) (fun τ2 q1 q2 => ?_)
    simp (disch := first | exact ev_ok_i _ | exact ev_ok_r _ | exact ev_ok_n | omega | assumption | decide) only [e_Re_gateFor_81, ev_rm_n, ev_rm_i, ev_rm_r, ev_rm_l, ev_ok_n, ev_ok_i, ev_ok_r, Option.toList_some, Option.toList_none, List.cons_append, List.nil_append, true_and, and_true, true_or, or_true, reduceIte, Nat.reduceEqDiff, if_true, if_false]
    exact after 3 v w 1 (Or.inr rfl) hv hw (by rw [e]; rfl) (by rw [e]; rfl) τ2 q1 q2
  · have es : nI (cs_sn lv) = 8 := by rw [e]; rfl
    rw [es] at after ⊢
    simp (disch := first | exact ev_ok_i _ | exact ev_ok_r _ | exact ev_ok_n | omega | assumption | decide) only [e_Re_gateFor_0, ev_rm_n, ev_rm_i, ev_rm_r, ev_rm_l, ev_ok_n, ev_ok_i, ev_ok_r, Option.toList_some, Option.toList_none, List.cons_append, List.nil_append, true_and, and_true, true_or, or_true, reduceIte, Nat.reduceEqDiff, if_true, if_false]
    rw [e_Re_gateFor_1]
    simp (disch := first | exact ev_ok_i _ | exact ev_ok_r _ | exact ev_ok_n | omega | assumption | decide) only [if_true, e_Re_gateFor_32, e_Re_gateFor_33, e_Re_gateFor_36, e_Re_gateFor_37, e_Re_gateFor_38, e_Re_gateFor_39, ev_rm_n, ev_rm_i, ev_rm_r, ev_rm_l, ev_ok_n, ev_ok_i, ev_ok_r, Option.toList_some, Option.toList_none, List.cons_append, List.nil_append, true_and, and_true, true_or, or_true, reduceIte, Nat.reduceEqDiff, if_true, if_false, cg_Dp_rc, cg_Dp_text, cg_Dp_circuit, cg_Dp_reader, cg_Dp_current, cg_Dp_working, cg_Dp_saturator, cg_Dp_table, cg_Te_rc, cg_Te_bytes, cg_Te_length, cp_Te_length, cg_Ci_rc, cg_Ci_kinds, cg_Ci_firsts, cg_Ci_seconds, cg_Ci_inputVariables, cg_Ci_names, cg_Ci_nameLengths, cg_Ci_size, cp_Ci_size, cg_Ci_inputs, cp_Ci_inputs, cg_Re_rc, cg_Re_text, cg_Re_circuit, cg_Re_token, cp_Re_token, cg_Re_start, cp_Re_start, cg_Re_next, cp_Re_next, cg_Re_open, cp_Re_open, cg_Re_fault, cp_Re_fault, cg_Re_faultPlace, cp_Re_faultPlace, cg_Sa_rc, cg_Sa_circuit, cg_Sa_before, cg_Sa_trueBranches, cg_Sa_falseBranches, cg_Sa_tallies, cg_Sa_mostSteps, cp_Sa_mostSteps, cg_Sa_spent, cp_Sa_spent, cg_Ta_rc, cg_Ta_circuit, cg_Ta_words, cr_kinds, cw_kinds, cr_firsts, cw_firsts, cr_seconds, cw_seconds, cr_inputVariables, cw_inputVariables, cr_nameLengths, cw_nameLengths, cr_tallies, cw_tallies, cr_bytes, cw_bytes, cr_words, cw_words, cl_tallies, cr_names, cr_trueB, cr_falseB, cr_name, cw_name, cq_rc, cq_st, cq_size, cq_classes, cq_contradiction, cqp_size, cqp_classes, cqp_contradiction, cq_rd, cq_wr, cq_copy, cl_s_1, cl_s_2, cl_ar_1, cl_ar_2, cl_w_1, cl_w_2]
    refine c_ciGate (k := 2) hP.1.1 hi24 (by decide) (by omega) (by omega) (fun τ2 q1 q2 => ?_)
    simp (disch := first | exact ev_ok_i _ | exact ev_ok_r _ | exact ev_ok_n | omega | assumption | decide) only [e_Re_gateFor_42, ev_rm_n, ev_rm_i, ev_rm_r, ev_rm_l, ev_ok_n, ev_ok_i, ev_ok_r, Option.toList_some, Option.toList_none, List.cons_append, List.nil_append, true_and, and_true, true_or, or_true, reduceIte, Nat.reduceEqDiff, if_true, if_false]
    exact after 2 v w 0 (Or.inl rfl) hv hw (by rw [e]; rfl) (by rw [e]; rfl) τ2 q1 q2
end CR3
