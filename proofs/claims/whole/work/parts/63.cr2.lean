/-! THE CLASS's tokens -/
theorem nL_sub {a b : Nat} (h : b ≤ a) : nI a - nI b = nI (a - b) := by
  have e := nI_add (a - b) b
  rw [Nat.sub_add_cancel h] at e
  rw [← e]
  exact Int32.add_sub_cancel _ _
/-- the class's number of a token's kind; 0: none -/
def cs_k (k : Int32) : Nat := if k = 256 then 1 else if k = 257 then 2 else if k = 258 then 3 else if k = 259 then 4 else if k = 40 then 5 else if k = 41 then 6 else if k = 126 then 7 else if k = 38 then 8 else if k = 94 then 9 else if k = 124 then 10 else if k = 260 then 11 else if k = 261 then 12 else 0
theorem cs_k_lt (k : Int32) : cs_k k < 13 := by
  unfold cs_k
  repeat' split
  all_goals decide
/-- the kinds that there are -/
def cs_kd (k : Int32) : Prop := k = 256 ∨ k = 257 ∨ k = 258 ∨ k = 259 ∨ k = 40 ∨ k = 41 ∨ k = 126 ∨ k = 38 ∨ k = 94 ∨ k = 124 ∨ k = 260 ∨ k = 261 ∨ k = 262
theorem sp_tw_kd (x : sp_X) (s : Nat) : cs_kd (sp_tw x s).1 := by
  unfold sp_tw
  split
  · exact Or.inl rfl
  · split
    · show cs_kd (sp_wk x s _)
      unfold sp_wk cs_kd
      split
      · simp
      · split
        · simp
        · split <;> simp
    · split
      · unfold cs_kd; simp
      · split
        · unfold cs_kd; simp
        · show cs_kd (if sp_sgn (x.1 s) then x.1 s else 262)
          split
          · rename_i h
            unfold cs_kd
            rcases h with h | h | h | h | h | h <;> rw [h] <;> simp
          · unfold cs_kd; simp
theorem cs_k_0 {k : Int32} (h : cs_kd k) : cs_k k = 0 ↔ k = 262 := by
  rcases h with h | h | h | h | h | h | h | h | h | h | h | h | h <;> rw [h] <;> decide
theorem cs_k_inj {k l : Int32} (h : cs_kd k) (h2 : cs_kd l) : cs_k k = cs_k l ↔ k = l := by
  rcases h with h | h | h | h | h | h | h | h | h | h | h | h | h <;> rw [h] <;> (rcases h2 with h2 | h2 | h2 | h2 | h2 | h2 | h2 | h2 | h2 | h2 | h2 | h2 | h2 <;> rw [h2] <;> decide)
/-- the state with a token found -/
def cl_sc (τ : cl_S) (k : Int32) (e : Nat) : cl_S := if cs_k k = 0 then τ else cl_s (cl_s τ 34 2 (nI (cs_k k))) 34 4 (nI e)
section CR2
variable {X : xo_X} {d B : Nat} {τ : cl_S} {g : xo_G} {Q : Option Value → xo_G → Prop} {x : sp_X}
theorem c_found (k l : Int32) : ev_C X d m_Re_found [.ref (B + 34), .int k, .int l] (cl_put B τ g) Q ↔ Q none (cl_put B (cl_s (cl_s τ 34 2 k) 34 4 (τ.1 34 3 + l)) g) := by
  show ev_R X d m_Re_found 0 [some (.ref (B + 34)), some (.int k), some (.int l)] [] (cl_put B τ g) Q ↔ _
  simp (disch := first | exact ev_ok_i _ | exact ev_ok_r _ | exact ev_ok_n | omega | assumption | decide) only [e_Re_found_0, e_Re_found_1, e_Re_found_2, e_Re_found_5, e_Re_found_6, e_Re_found_7, e_Re_found_10, e_Re_found_11, e_Re_found_12, e_Re_found_15, ev_rm_n, ev_rm_i, ev_rm_r, ev_rm_l, ev_ok_n, ev_ok_i, ev_ok_r, Option.toList_some, Option.toList_none, List.cons_append, List.nil_append, true_and, and_true, true_or, or_true, reduceIte, Nat.reduceEqDiff, if_true, if_false, cg_Dp_rc, cg_Dp_text, cg_Dp_circuit, cg_Dp_reader, cg_Dp_current, cg_Dp_working, cg_Dp_saturator, cg_Dp_table, cg_Te_rc, cg_Te_bytes, cg_Te_length, cp_Te_length, cg_Ci_rc, cg_Ci_kinds, cg_Ci_firsts, cg_Ci_seconds, cg_Ci_inputVariables, cg_Ci_names, cg_Ci_nameLengths, cg_Ci_size, cp_Ci_size, cg_Ci_inputs, cp_Ci_inputs, cg_Re_rc, cg_Re_text, cg_Re_circuit, cg_Re_token, cp_Re_token, cg_Re_start, cp_Re_start, cg_Re_next, cp_Re_next, cg_Re_open, cp_Re_open, cg_Re_fault, cp_Re_fault, cg_Re_faultPlace, cp_Re_faultPlace, cg_Sa_rc, cg_Sa_circuit, cg_Sa_before, cg_Sa_trueBranches, cg_Sa_falseBranches, cg_Sa_tallies, cg_Sa_mostSteps, cp_Sa_mostSteps, cg_Sa_spent, cp_Sa_spent, cg_Ta_rc, cg_Ta_circuit, cg_Ta_words, cr_kinds, cw_kinds, cr_firsts, cw_firsts, cr_seconds, cw_seconds, cr_inputVariables, cw_inputVariables, cr_nameLengths, cw_nameLengths, cr_tallies, cw_tallies, cr_bytes, cw_bytes, cr_words, cw_words, cl_tallies, cr_names, cr_trueB, cr_falseB, cr_name, cw_name, cq_rc, cq_st, cq_size, cq_classes, cq_contradiction, cqp_size, cqp_classes, cqp_contradiction, cq_rd, cq_wr, cq_copy, cl_s_1, cl_s_2, cl_ar_1, cl_ar_2, cl_w_1, cl_w_2, upd_a, if_neg (show ¬ (3 : Nat) = 2 by decide)]
theorem c_refuse (k a : Int32) : ev_C X d m_Re_refuse [.ref (B + 34), .int k, .int a] (cl_put B τ g) Q ↔ Q (some (.int 0)) (cl_put B (if τ.1 34 6 = 0 then cl_s (cl_s τ 34 6 k) 34 7 a else τ) g) := by
  show ev_R X d m_Re_refuse 0 [some (.ref (B + 34)), some (.int k), some (.int a)] [] (cl_put B τ g) Q ↔ _
  simp (disch := first | exact ev_ok_i _ | exact ev_ok_r _ | exact ev_ok_n | omega | assumption | decide) only [e_Re_refuse_0, e_Re_refuse_1, e_Re_refuse_4, e_Re_refuse_7, e_Re_refuse_8, e_Re_refuse_9, e_Re_refuse_12, e_Re_refuse_13, e_Re_refuse_14, e_Re_refuse_17, e_Re_refuse_18, ev_rm_n, ev_rm_i, ev_rm_r, ev_rm_l, ev_ok_n, ev_ok_i, ev_ok_r, Option.toList_some, Option.toList_none, List.cons_append, List.nil_append, true_and, and_true, true_or, or_true, reduceIte, Nat.reduceEqDiff, if_true, if_false, cg_Dp_rc, cg_Dp_text, cg_Dp_circuit, cg_Dp_reader, cg_Dp_current, cg_Dp_working, cg_Dp_saturator, cg_Dp_table, cg_Te_rc, cg_Te_bytes, cg_Te_length, cp_Te_length, cg_Ci_rc, cg_Ci_kinds, cg_Ci_firsts, cg_Ci_seconds, cg_Ci_inputVariables, cg_Ci_names, cg_Ci_nameLengths, cg_Ci_size, cp_Ci_size, cg_Ci_inputs, cp_Ci_inputs, cg_Re_rc, cg_Re_text, cg_Re_circuit, cg_Re_token, cp_Re_token, cg_Re_start, cp_Re_start, cg_Re_next, cp_Re_next, cg_Re_open, cp_Re_open, cg_Re_fault, cp_Re_fault, cg_Re_faultPlace, cp_Re_faultPlace, cg_Sa_rc, cg_Sa_circuit, cg_Sa_before, cg_Sa_trueBranches, cg_Sa_falseBranches, cg_Sa_tallies, cg_Sa_mostSteps, cp_Sa_mostSteps, cg_Sa_spent, cp_Sa_spent, cg_Ta_rc, cg_Ta_circuit, cg_Ta_words, cr_kinds, cw_kinds, cr_firsts, cw_firsts, cr_seconds, cw_seconds, cr_inputVariables, cw_inputVariables, cr_nameLengths, cw_nameLengths, cr_tallies, cw_tallies, cr_bytes, cw_bytes, cr_words, cw_words, cl_tallies, cr_names, cr_trueB, cr_falseB, cr_name, cw_name, cq_rc, cq_st, cq_size, cq_classes, cq_contradiction, cqp_size, cqp_classes, cqp_contradiction, cq_rd, cq_wr, cq_copy, cl_s_1, cl_s_2, cl_ar_1, cl_ar_2, cl_w_1, cl_w_2]
  by_cases h : τ.1 34 6 = 0 <;> simp [h]
theorem c_take2 : ev_C X d m_Re_take [.ref (B + 34)] (cl_put B τ g) Q ↔ Q (some (.int (τ.1 34 3))) (cl_put B (cl_s τ 34 2 0) g) := by
  show ev_R X d m_Re_take 0 [some (.ref (B + 34))] [] (cl_put B τ g) Q ↔ _
  simp (disch := first | exact ev_ok_i _ | exact ev_ok_r _ | exact ev_ok_n | omega | assumption | decide) only [e_Re_take_0, e_Re_take_1, e_Re_take_2, e_Re_take_5, e_Re_take_6, e_Re_take_9, ev_rm_n, ev_rm_i, ev_rm_r, ev_rm_l, ev_ok_n, ev_ok_i, ev_ok_r, Option.toList_some, Option.toList_none, List.cons_append, List.nil_append, true_and, and_true, true_or, or_true, reduceIte, Nat.reduceEqDiff, if_true, if_false, cg_Dp_rc, cg_Dp_text, cg_Dp_circuit, cg_Dp_reader, cg_Dp_current, cg_Dp_working, cg_Dp_saturator, cg_Dp_table, cg_Te_rc, cg_Te_bytes, cg_Te_length, cp_Te_length, cg_Ci_rc, cg_Ci_kinds, cg_Ci_firsts, cg_Ci_seconds, cg_Ci_inputVariables, cg_Ci_names, cg_Ci_nameLengths, cg_Ci_size, cp_Ci_size, cg_Ci_inputs, cp_Ci_inputs, cg_Re_rc, cg_Re_text, cg_Re_circuit, cg_Re_token, cp_Re_token, cg_Re_start, cp_Re_start, cg_Re_next, cp_Re_next, cg_Re_open, cp_Re_open, cg_Re_fault, cp_Re_fault, cg_Re_faultPlace, cp_Re_faultPlace, cg_Sa_rc, cg_Sa_circuit, cg_Sa_before, cg_Sa_trueBranches, cg_Sa_falseBranches, cg_Sa_tallies, cg_Sa_mostSteps, cp_Sa_mostSteps, cg_Sa_spent, cp_Sa_spent, cg_Ta_rc, cg_Ta_circuit, cg_Ta_words, cr_kinds, cw_kinds, cr_firsts, cw_firsts, cr_seconds, cw_seconds, cr_inputVariables, cw_inputVariables, cr_nameLengths, cw_nameLengths, cr_tallies, cw_tallies, cr_bytes, cw_bytes, cr_words, cw_words, cl_tallies, cr_names, cr_trueB, cr_falseB, cr_name, cw_name, cq_rc, cq_st, cq_size, cq_classes, cq_contradiction, cqp_size, cqp_classes, cqp_contradiction, cq_rd, cq_wr, cq_copy, cl_s_1, cl_s_2, cl_ar_1, cl_ar_2, cl_w_1, cl_w_2, upd_a, if_neg (show ¬ (3 : Nat) = 2 by decide)]
theorem c_bb_loop (hx : cl_xR τ x) (hn : x.2 ≤ 3000) {q0 : Int32} : ∀ (m p i : Nat), p + m = x.2 → i + m ≤ 3000 → (ev_R X (d + 1) m_Re_behindBlanks 4 [some (.ref (B + 34)), some (.int q0), some (.int (nI p)), some (.int (nI i))] [] (cl_put B τ g) Q ↔ Q (some (.int (nI (sp_bl x m p)))) (cl_put B τ g)) := by
  intro m
  induction m with
  | zero =>
    intro p i hp hi
    have bt : ∀ (K : Option Value → xo_G → Prop), ev_C X d m_Te_byteAt [.ref (B + 1), .int (nI p)] (cl_put B τ g) K ↔ K (some (.int (cs_bt x p))) (cl_put B τ g) := fun K => c_byteAt hx hn (by omega)
    have hb : ¬ sp_blank (cs_bt x p) := by
      have : cs_bt x p = -1 := (cs_bt_m1 hx.2.2).mpr (by omega)
      rw [this]
      decide
    simp (disch := first | exact ev_ok_i _ | exact ev_ok_r _ | exact ev_ok_n | omega | assumption | decide) only [e_Re_behindBlanks_4, e_Re_behindBlanks_5, e_Re_behindBlanks_8, e_Re_behindBlanks_11, e_Re_behindBlanks_12, e_Re_behindBlanks_15, e_Re_behindBlanks_16, e_Re_behindBlanks_19, e_Re_behindBlanks_22, e_Re_behindBlanks_34, e_Re_behindBlanks_35, ev_rm_n, ev_rm_i, ev_rm_r, ev_rm_l, ev_ok_n, ev_ok_i, ev_ok_r, Option.toList_some, Option.toList_none, List.cons_append, List.nil_append, true_and, and_true, true_or, or_true, reduceIte, Nat.reduceEqDiff, if_true, if_false, cg_Dp_rc, cg_Dp_text, cg_Dp_circuit, cg_Dp_reader, cg_Dp_current, cg_Dp_working, cg_Dp_saturator, cg_Dp_table, cg_Te_rc, cg_Te_bytes, cg_Te_length, cp_Te_length, cg_Ci_rc, cg_Ci_kinds, cg_Ci_firsts, cg_Ci_seconds, cg_Ci_inputVariables, cg_Ci_names, cg_Ci_nameLengths, cg_Ci_size, cp_Ci_size, cg_Ci_inputs, cp_Ci_inputs, cg_Re_rc, cg_Re_text, cg_Re_circuit, cg_Re_token, cp_Re_token, cg_Re_start, cp_Re_start, cg_Re_next, cp_Re_next, cg_Re_open, cp_Re_open, cg_Re_fault, cp_Re_fault, cg_Re_faultPlace, cp_Re_faultPlace, cg_Sa_rc, cg_Sa_circuit, cg_Sa_before, cg_Sa_trueBranches, cg_Sa_falseBranches, cg_Sa_tallies, cg_Sa_mostSteps, cp_Sa_mostSteps, cg_Sa_spent, cp_Sa_spent, cg_Ta_rc, cg_Ta_circuit, cg_Ta_words, cr_kinds, cw_kinds, cr_firsts, cw_firsts, cr_seconds, cw_seconds, cr_inputVariables, cw_inputVariables, cr_nameLengths, cw_nameLengths, cr_tallies, cw_tallies, cr_bytes, cw_bytes, cr_words, cw_words, cl_tallies, cr_names, cr_trueB, cr_falseB, cr_name, cw_name, cq_rc, cq_st, cq_size, cq_classes, cq_contradiction, cqp_size, cqp_classes, cqp_contradiction, cq_rd, cq_wr, cq_copy, cl_s_1, cl_s_2, cl_ar_1, cl_ar_2, cl_w_1, cl_w_2, bt, c_reBlank, zi_0, hb, not_false_eq_true, if_true, ite_self, sp_bl]
  | succ m ih =>
    intro p i hp hi
    have bt : ∀ (K : Option Value → xo_G → Prop), ev_C X d m_Te_byteAt [.ref (B + 1), .int (nI p)] (cl_put B τ g) K ↔ K (some (.int (cs_bt x p))) (cl_put B τ g) := fun K => c_byteAt hx hn (by omega)
    have c1 : ¬ (3000 : Int32) ≤ nI i := nI_ge (b := 3000) (by omega) (by decide)
    have hb := cs_bt_blank hx.2.2 (k := p) (by omega)
    have hih := ih (p + 1) (i + 1) (by omega) (by omega)
    simp (disch := first | exact ev_ok_i _ | exact ev_ok_r _ | exact ev_ok_n | omega | assumption | decide) only [e_Re_behindBlanks_4, e_Re_behindBlanks_5, e_Re_behindBlanks_8, e_Re_behindBlanks_11, e_Re_behindBlanks_12, e_Re_behindBlanks_15, e_Re_behindBlanks_16, e_Re_behindBlanks_19, e_Re_behindBlanks_22, e_Re_behindBlanks_25, e_Re_behindBlanks_28, e_Re_behindBlanks_31, e_Re_behindBlanks_34, e_Re_behindBlanks_35, ev_rm_n, ev_rm_i, ev_rm_r, ev_rm_l, ev_ok_n, ev_ok_i, ev_ok_r, Option.toList_some, Option.toList_none, List.cons_append, List.nil_append, true_and, and_true, true_or, or_true, reduceIte, Nat.reduceEqDiff, if_true, if_false, cg_Dp_rc, cg_Dp_text, cg_Dp_circuit, cg_Dp_reader, cg_Dp_current, cg_Dp_working, cg_Dp_saturator, cg_Dp_table, cg_Te_rc, cg_Te_bytes, cg_Te_length, cp_Te_length, cg_Ci_rc, cg_Ci_kinds, cg_Ci_firsts, cg_Ci_seconds, cg_Ci_inputVariables, cg_Ci_names, cg_Ci_nameLengths, cg_Ci_size, cp_Ci_size, cg_Ci_inputs, cp_Ci_inputs, cg_Re_rc, cg_Re_text, cg_Re_circuit, cg_Re_token, cp_Re_token, cg_Re_start, cp_Re_start, cg_Re_next, cp_Re_next, cg_Re_open, cp_Re_open, cg_Re_fault, cp_Re_fault, cg_Re_faultPlace, cp_Re_faultPlace, cg_Sa_rc, cg_Sa_circuit, cg_Sa_before, cg_Sa_trueBranches, cg_Sa_falseBranches, cg_Sa_tallies, cg_Sa_mostSteps, cp_Sa_mostSteps, cg_Sa_spent, cp_Sa_spent, cg_Ta_rc, cg_Ta_circuit, cg_Ta_words, cr_kinds, cw_kinds, cr_firsts, cw_firsts, cr_seconds, cw_seconds, cr_inputVariables, cw_inputVariables, cr_nameLengths, cw_nameLengths, cr_tallies, cw_tallies, cr_bytes, cw_bytes, cr_words, cw_words, cl_tallies, cr_names, cr_trueB, cr_falseB, cr_name, cw_name, cq_rc, cq_st, cq_size, cq_classes, cq_contradiction, cqp_size, cqp_classes, cqp_contradiction, cq_rd, cq_wr, cq_copy, cl_s_1, cl_s_2, cl_ar_1, cl_ar_2, cl_w_1, cl_w_2, c1, bt, c_reBlank, zi_0, hb, nI_1, hih, sp_bl]
    by_cases h : sp_blank (x.1 p)
    · simp only [h, not_true_eq_false, if_false, if_true]
    · simp only [h, not_false_eq_true, if_false, if_true]
theorem c_bw_loop (hx : cl_xR τ x) (hn : x.2 ≤ 3000) {q0 : Int32} : ∀ (m p i : Nat), p + m = x.2 → i + m ≤ 3000 → (ev_R X (d + 2) m_Re_behindWord 4 [some (.ref (B + 34)), some (.int q0), some (.int (nI p)), some (.int (nI i))] [] (cl_put B τ g) Q ↔ Q (some (.int (nI (sp_we x m p)))) (cl_put B τ g)) := by
  intro m
  induction m with
  | zero =>
    intro p i hp hi
    have bt : ∀ (K : Option Value → xo_G → Prop), ev_C X (d + 1) m_Te_byteAt [.ref (B + 1), .int (nI p)] (cl_put B τ g) K ↔ K (some (.int (cs_bt x p))) (cl_put B τ g) := fun K => c_byteAt hx hn (by omega)
    have hb : ¬ (sp_small (cs_bt x p) ∨ sp_digit (cs_bt x p)) := by
      have : cs_bt x p = -1 := (cs_bt_m1 hx.2.2).mpr (by omega)
      rw [this]
      decide
    simp (disch := first | exact ev_ok_i _ | exact ev_ok_r _ | exact ev_ok_n | omega | assumption | decide) only [e_Re_behindWord_4, e_Re_behindWord_5, e_Re_behindWord_8, e_Re_behindWord_11, e_Re_behindWord_12, e_Re_behindWord_15, e_Re_behindWord_16, e_Re_behindWord_19, e_Re_behindWord_22, e_Re_behindWord_34, e_Re_behindWord_35, ev_rm_n, ev_rm_i, ev_rm_r, ev_rm_l, ev_ok_n, ev_ok_i, ev_ok_r, Option.toList_some, Option.toList_none, List.cons_append, List.nil_append, true_and, and_true, true_or, or_true, reduceIte, Nat.reduceEqDiff, if_true, if_false, cg_Dp_rc, cg_Dp_text, cg_Dp_circuit, cg_Dp_reader, cg_Dp_current, cg_Dp_working, cg_Dp_saturator, cg_Dp_table, cg_Te_rc, cg_Te_bytes, cg_Te_length, cp_Te_length, cg_Ci_rc, cg_Ci_kinds, cg_Ci_firsts, cg_Ci_seconds, cg_Ci_inputVariables, cg_Ci_names, cg_Ci_nameLengths, cg_Ci_size, cp_Ci_size, cg_Ci_inputs, cp_Ci_inputs, cg_Re_rc, cg_Re_text, cg_Re_circuit, cg_Re_token, cp_Re_token, cg_Re_start, cp_Re_start, cg_Re_next, cp_Re_next, cg_Re_open, cp_Re_open, cg_Re_fault, cp_Re_fault, cg_Re_faultPlace, cp_Re_faultPlace, cg_Sa_rc, cg_Sa_circuit, cg_Sa_before, cg_Sa_trueBranches, cg_Sa_falseBranches, cg_Sa_tallies, cg_Sa_mostSteps, cp_Sa_mostSteps, cg_Sa_spent, cp_Sa_spent, cg_Ta_rc, cg_Ta_circuit, cg_Ta_words, cr_kinds, cw_kinds, cr_firsts, cw_firsts, cr_seconds, cw_seconds, cr_inputVariables, cw_inputVariables, cr_nameLengths, cw_nameLengths, cr_tallies, cw_tallies, cr_bytes, cw_bytes, cr_words, cw_words, cl_tallies, cr_names, cr_trueB, cr_falseB, cr_name, cw_name, cq_rc, cq_st, cq_size, cq_classes, cq_contradiction, cqp_size, cqp_classes, cqp_contradiction, cq_rd, cq_wr, cq_copy, cl_s_1, cl_s_2, cl_ar_1, cl_ar_2, cl_w_1, cl_w_2, bt, c_reLD, zi_0, hb, not_false_eq_true, if_true, ite_self, sp_we]
  | succ m ih =>
    intro p i hp hi
    have bt : ∀ (K : Option Value → xo_G → Prop), ev_C X (d + 1) m_Te_byteAt [.ref (B + 1), .int (nI p)] (cl_put B τ g) K ↔ K (some (.int (cs_bt x p))) (cl_put B τ g) := fun K => c_byteAt hx hn (by omega)
    have c1 : ¬ (3000 : Int32) ≤ nI i := nI_ge (b := 3000) (by omega) (by decide)
    have hb : (sp_small (cs_bt x p) ∨ sp_digit (cs_bt x p)) ↔ (sp_small (x.1 p) ∨ sp_digit (x.1 p)) := or_congr (cs_bt_small hx.2.2 (k := p) (by omega)) (cs_bt_digit hx.2.2 (k := p) (by omega))
    have hih := ih (p + 1) (i + 1) (by omega) (by omega)
    simp (disch := first | exact ev_ok_i _ | exact ev_ok_r _ | exact ev_ok_n | omega | assumption | decide) only [e_Re_behindWord_4, e_Re_behindWord_5, e_Re_behindWord_8, e_Re_behindWord_11, e_Re_behindWord_12, e_Re_behindWord_15, e_Re_behindWord_16, e_Re_behindWord_19, e_Re_behindWord_22, e_Re_behindWord_25, e_Re_behindWord_28, e_Re_behindWord_31, e_Re_behindWord_34, e_Re_behindWord_35, ev_rm_n, ev_rm_i, ev_rm_r, ev_rm_l, ev_ok_n, ev_ok_i, ev_ok_r, Option.toList_some, Option.toList_none, List.cons_append, List.nil_append, true_and, and_true, true_or, or_true, reduceIte, Nat.reduceEqDiff, if_true, if_false, cg_Dp_rc, cg_Dp_text, cg_Dp_circuit, cg_Dp_reader, cg_Dp_current, cg_Dp_working, cg_Dp_saturator, cg_Dp_table, cg_Te_rc, cg_Te_bytes, cg_Te_length, cp_Te_length, cg_Ci_rc, cg_Ci_kinds, cg_Ci_firsts, cg_Ci_seconds, cg_Ci_inputVariables, cg_Ci_names, cg_Ci_nameLengths, cg_Ci_size, cp_Ci_size, cg_Ci_inputs, cp_Ci_inputs, cg_Re_rc, cg_Re_text, cg_Re_circuit, cg_Re_token, cp_Re_token, cg_Re_start, cp_Re_start, cg_Re_next, cp_Re_next, cg_Re_open, cp_Re_open, cg_Re_fault, cp_Re_fault, cg_Re_faultPlace, cp_Re_faultPlace, cg_Sa_rc, cg_Sa_circuit, cg_Sa_before, cg_Sa_trueBranches, cg_Sa_falseBranches, cg_Sa_tallies, cg_Sa_mostSteps, cp_Sa_mostSteps, cg_Sa_spent, cp_Sa_spent, cg_Ta_rc, cg_Ta_circuit, cg_Ta_words, cr_kinds, cw_kinds, cr_firsts, cw_firsts, cr_seconds, cw_seconds, cr_inputVariables, cw_inputVariables, cr_nameLengths, cw_nameLengths, cr_tallies, cw_tallies, cr_bytes, cw_bytes, cr_words, cw_words, cl_tallies, cr_names, cr_trueB, cr_falseB, cr_name, cw_name, cq_rc, cq_st, cq_size, cq_classes, cq_contradiction, cqp_size, cqp_classes, cqp_contradiction, cq_rd, cq_wr, cq_copy, cl_s_1, cl_s_2, cl_ar_1, cl_ar_2, cl_w_1, cl_w_2, c1, bt, c_reLD, zi_0, hb, nI_1, hih, sp_we]
    by_cases h : sp_small (x.1 p) ∨ sp_digit (x.1 p)
    · simp only [h, not_true_eq_false, if_false, if_true]
    · simp only [h, not_false_eq_true, if_false, if_true]
theorem c_behindBlanks {p : Nat} (hx : cl_xR τ x) (hn : x.2 ≤ 3000) (hp : p ≤ x.2) : ev_C X (d + 1) m_Re_behindBlanks [.ref (B + 34), .int (nI p)] (cl_put B τ g) Q ↔ Q (some (.int (nI (sp_ts x p)))) (cl_put B τ g) := by
  show ev_R X (d + 1) m_Re_behindBlanks 0 [some (.ref (B + 34)), some (.int (nI p)), none, none] [] (cl_put B τ g) Q ↔ _
  have e0 : (0 : Int32) = nI 0 := rfl
  simp (disch := first | exact ev_ok_i _ | exact ev_ok_r _ | exact ev_ok_n | omega | assumption | decide) only [e_Re_behindBlanks_0, e_Re_behindBlanks_1, e_Re_behindBlanks_2, e_Re_behindBlanks_3, ev_rm_n, ev_rm_i, ev_rm_r, ev_rm_l, ev_ok_n, ev_ok_i, ev_ok_r, Option.toList_some, Option.toList_none, List.cons_append, List.nil_append, true_and, and_true, true_or, or_true, reduceIte, Nat.reduceEqDiff, if_true, if_false]
  rw [e0, c_bb_loop hx hn (x.2 - p) p 0 (by omega) (by omega)]
  rfl
theorem c_behindWord {p : Nat} (hx : cl_xR τ x) (hn : x.2 ≤ 3000) (hp : p ≤ x.2) : ev_C X (d + 2) m_Re_behindWord [.ref (B + 34), .int (nI p)] (cl_put B τ g) Q ↔ Q (some (.int (nI (sp_we x (x.2 - p) p)))) (cl_put B τ g) := by
  show ev_R X (d + 2) m_Re_behindWord 0 [some (.ref (B + 34)), some (.int (nI p)), none, none] [] (cl_put B τ g) Q ↔ _
  have e0 : (0 : Int32) = nI 0 := rfl
  simp (disch := first | exact ev_ok_i _ | exact ev_ok_r _ | exact ev_ok_n | omega | assumption | decide) only [e_Re_behindWord_0, e_Re_behindWord_1, e_Re_behindWord_2, e_Re_behindWord_3, ev_rm_n, ev_rm_i, ev_rm_r, ev_rm_l, ev_ok_n, ev_ok_i, ev_ok_r, Option.toList_some, Option.toList_none, List.cons_append, List.nil_append, true_and, and_true, true_or, or_true, reduceIte, Nat.reduceEqDiff, if_true, if_false]
  rw [e0, c_bw_loop hx hn (x.2 - p) p 0 (by omega) (by omega)]
theorem cs_ha_true {s : Nat} (hb : ∀ j, j < x.2 → cs_b (x.1 j)) (hs : s + 4 ≤ x.2) : cs_ha x [116, 114, 117, 101] s = true ↔ sp_true x s := by
  unfold cs_ha cs_ha cs_ha cs_ha cs_ha
  simp only [Bool.and_eq_true, decide_eq_true_eq, and_true]
  rw [cs_bt_in hb (by omega) (by decide), cs_bt_in hb (by omega) (by decide), cs_bt_in hb (by omega) (by decide), cs_bt_in hb (by omega) (by decide)]
  exact Iff.rfl
theorem cs_ha_false {s : Nat} (hb : ∀ j, j < x.2 → cs_b (x.1 j)) (hs : s + 5 ≤ x.2) : cs_ha x [102, 97, 108, 115, 101] s = true ↔ sp_false x s := by
  unfold cs_ha cs_ha cs_ha cs_ha cs_ha cs_ha
  simp only [Bool.and_eq_true, decide_eq_true_eq, and_true]
  rw [cs_bt_in hb (by omega) (by decide), cs_bt_in hb (by omega) (by decide), cs_bt_in hb (by omega) (by decide), cs_bt_in hb (by omega) (by decide), cs_bt_in hb (by omega) (by decide)]
  exact Iff.rfl
theorem cs_ha_imp {s : Nat} (hb : ∀ j, j < x.2 → cs_b (x.1 j)) (hs : s < x.2) : cs_ha x [45, 62] s = true ↔ x.1 s = 45 ∧ sp_sg x (s + 1) = 62 := by
  unfold cs_ha cs_ha cs_ha
  simp only [Bool.and_eq_true, decide_eq_true_eq, and_true]
  rw [cs_bt_in hb hs (by decide), cs_bt_eq hb (by decide)]
  exact Iff.rfl
theorem cs_ha_eqv {s : Nat} (hb : ∀ j, j < x.2 → cs_b (x.1 j)) (hs : s < x.2) : cs_ha x [60, 45, 62] s = true ↔ x.1 s = 60 ∧ sp_sg x (s + 1) = 45 ∧ sp_sg x (s + 2) = 62 := by
  unfold cs_ha cs_ha cs_ha cs_ha
  simp only [Bool.and_eq_true, decide_eq_true_eq, and_true]
  rw [cs_bt_in hb hs (by decide), cs_bt_eq hb (by decide), cs_bt_eq hb (by decide)]
  exact Iff.rfl
theorem c_scanWord {s : Nat} (hX : cl_TX X B g) (hx : cl_xR τ x) (hn : x.2 ≤ 3000) (hs : s < x.2) (h3 : τ.1 34 3 = nI s) (hsm : sp_small (x.1 s)) : ev_C X (d + 5) m_Re_scanWord [.ref (B + 34)] (cl_put B τ g) Q ↔ Q none (cl_put B (cl_sc τ (sp_tw x s).1 (s + (sp_tw x s).2)) g) := by
  show ev_R X (d + 5) m_Re_scanWord 0 [some (.ref (B + 34)), none, none] [] (cl_put B τ g) Q ↔ _
  have hle := sp_we_le x (x.2 - s) s
  have bw : ∀ (K : Option Value → xo_G → Prop), ev_C X (d + 4) m_Re_behindWord [.ref (B + 34), .int (nI s)] (cl_put B τ g) K ↔ K (some (.int (nI (sp_we x (x.2 - s) s)))) (cl_put B τ g) := fun K => c_behindWord (d := d + 2) hx hn (by omega)
  have ht : ∀ (K : Option Value → xo_G → Prop), ev_C X (d + 4) m_Te_hasAt [.ref (B + 1), .int (nI s), .ref (X.2.2.2.2.2 0)] (cl_put B τ g) K ↔ K (some (.int (if cs_ha x [116, 114, 117, 101] s = true then 1 else 0))) (cl_put B τ g) := fun K => c_hasAt hX hX.2.1 hx hn (by omega)
  have hf : ∀ (K : Option Value → xo_G → Prop), ev_C X (d + 4) m_Te_hasAt [.ref (B + 1), .int (nI s), .ref (X.2.2.2.2.2 1)] (cl_put B τ g) K ↔ K (some (.int (if cs_ha x [102, 97, 108, 115, 101] s = true then 1 else 0))) (cl_put B τ g) := fun K => c_hasAt hX hX.2.2.1 hx hn (by omega)
  have etw : sp_tw x s = (sp_wk x s (sp_we x (x.2 - s) s - s), sp_we x (x.2 - s) s - s) := by
    unfold sp_tw
    rw [if_neg (by omega), if_pos hsm]
  rw [etw]
  generalize he : sp_we x (x.2 - s) s = e at hle bw
  have sub : nI e - nI s = nI (e - s) := nL_sub (by omega)
  have c6 : nI (e - s) ≤ 6 ↔ e - s ≤ 6 := nI_leI (b := 6) (by omega) (by decide)
  have c4 : nI (e - s) = 4 ↔ e - s = 4 := nI_eq (b := 4) (by omega) (by decide)
  have c5 : nI (e - s) = 5 ↔ e - s = 5 := nI_eq (b := 5) (by omega) (by decide)
  have ad : nI s + nI (e - s) = nI (s + (e - s)) := nI_add _ _
  have i10 : ¬ (1 : Int32) = 0 := by decide
  simp (disch := first | exact ev_ok_i _ | exact ev_ok_r _ | exact ev_ok_n | omega | assumption | decide) only [e_Re_scanWord_0, e_Re_scanWord_1, e_Re_scanWord_2, e_Re_scanWord_5, e_Re_scanWord_8, e_Re_scanWord_9, e_Re_scanWord_10, e_Re_scanWord_11, e_Re_scanWord_14, e_Re_scanWord_15, e_Re_scanWord_16, e_Re_scanWord_17, e_Re_scanWord_19, e_Re_scanWord_22, e_Re_scanWord_23, e_Re_scanWord_24, e_Re_scanWord_25, e_Re_scanWord_28, e_Re_scanWord_29, e_Re_scanWord_32, e_Re_scanWord_33, e_Re_scanWord_36, e_Re_scanWord_38, e_Re_scanWord_41, e_Re_scanWord_44, e_Re_scanWord_45, e_Re_scanWord_46, e_Re_scanWord_47, e_Re_scanWord_50, e_Re_scanWord_53, e_Re_scanWord_54, e_Re_scanWord_55, e_Re_scanWord_58, e_Re_scanWord_59, e_Re_scanWord_62, e_Re_scanWord_63, e_Re_scanWord_66, e_Re_scanWord_68, e_Re_scanWord_71, e_Re_scanWord_74, e_Re_scanWord_75, e_Re_scanWord_76, e_Re_scanWord_77, e_Re_scanWord_80, e_Re_scanWord_83, e_Re_scanWord_84, e_Re_scanWord_85, e_Re_scanWord_86, e_Re_scanWord_89, ev_rm_n, ev_rm_i, ev_rm_r, ev_rm_l, ev_ok_n, ev_ok_i, ev_ok_r, Option.toList_some, Option.toList_none, List.cons_append, List.nil_append, true_and, and_true, true_or, or_true, reduceIte, Nat.reduceEqDiff, if_true, if_false, cg_Dp_rc, cg_Dp_text, cg_Dp_circuit, cg_Dp_reader, cg_Dp_current, cg_Dp_working, cg_Dp_saturator, cg_Dp_table, cg_Te_rc, cg_Te_bytes, cg_Te_length, cp_Te_length, cg_Ci_rc, cg_Ci_kinds, cg_Ci_firsts, cg_Ci_seconds, cg_Ci_inputVariables, cg_Ci_names, cg_Ci_nameLengths, cg_Ci_size, cp_Ci_size, cg_Ci_inputs, cp_Ci_inputs, cg_Re_rc, cg_Re_text, cg_Re_circuit, cg_Re_token, cp_Re_token, cg_Re_start, cp_Re_start, cg_Re_next, cp_Re_next, cg_Re_open, cp_Re_open, cg_Re_fault, cp_Re_fault, cg_Re_faultPlace, cp_Re_faultPlace, cg_Sa_rc, cg_Sa_circuit, cg_Sa_before, cg_Sa_trueBranches, cg_Sa_falseBranches, cg_Sa_tallies, cg_Sa_mostSteps, cp_Sa_mostSteps, cg_Sa_spent, cp_Sa_spent, cg_Ta_rc, cg_Ta_circuit, cg_Ta_words, cr_kinds, cw_kinds, cr_firsts, cw_firsts, cr_seconds, cw_seconds, cr_inputVariables, cw_inputVariables, cr_nameLengths, cw_nameLengths, cr_tallies, cw_tallies, cr_bytes, cw_bytes, cr_words, cw_words, cl_tallies, cr_names, cr_trueB, cr_falseB, cr_name, cw_name, cq_rc, cq_st, cq_size, cq_classes, cq_contradiction, cqp_size, cqp_classes, cqp_contradiction, cq_rd, cq_wr, cq_copy, cl_s_1, cl_s_2, cl_ar_1, cl_ar_2, cl_w_1, cl_w_2, h3, bw, sub, c6, c4, c5, ht, hf, c_found, ad]
  have fin : ∀ (V : Int32) (K : Nat), cs_k V = K → ¬ K = 0 → sp_wk x s (e - s) = V → cl_sc τ (sp_wk x s (e - s)) (s + (e - s)) = cl_s (cl_s τ 34 2 (nI K)) 34 4 (nI (s + (e - s))) := fun V K h1 h2 h3 => by
    unfold cl_sc
    rw [h3, h1, if_neg h2]
  by_cases d6 : e - s ≤ 6
  · have d6' : ¬ 6 < e - s := by omega
    by_cases d4 : e - s = 4
    · have hst := cs_ha_true hx.2.2 (s := s) (by omega)
      by_cases t : sp_true x s
      · rw [fin 258 3 (by decide) (by decide) (by unfold sp_wk; rw [if_neg d6', if_pos ⟨d4, t⟩])]
        have t2 := hst.mpr t
        simp only [d6, d4, t2, if_true, if_false, not_true_eq_false, i10]
        exact Iff.rfl
      · have t2 : ¬ cs_ha x [116, 114, 117, 101] s = true := fun z => t (hst.mp z)
        have n45 : ¬ (4 : Nat) = 5 := by decide
        rw [fin 257 2 (by decide) (by decide) (by unfold sp_wk; rw [if_neg d6', if_neg (fun z => t z.2), if_neg (fun z => by omega)])]
        simp only [d6, d4, t2, n45, if_true, if_false, not_true_eq_false, not_false_eq_true]
        exact Iff.rfl
    · by_cases d5 : e - s = 5
      · have hst := cs_ha_false hx.2.2 (s := s) (by omega)
        have n54 : ¬ (5 : Nat) = 4 := by decide
        by_cases t : sp_false x s
        · rw [fin 259 4 (by decide) (by decide) (by unfold sp_wk; rw [if_neg d6', if_neg (fun z => d4 z.1), if_pos ⟨d5, t⟩])]
          have t2 := hst.mpr t
          simp only [d6, d5, t2, n54, if_true, if_false, not_true_eq_false, not_false_eq_true, i10]
          exact Iff.rfl
        · have t2 : ¬ cs_ha x [102, 97, 108, 115, 101] s = true := fun z => t (hst.mp z)
          rw [fin 257 2 (by decide) (by decide) (by unfold sp_wk; rw [if_neg d6', if_neg (fun z => d4 z.1), if_neg (fun z => t z.2)])]
          simp only [d6, d5, t2, n54, if_true, if_false, not_true_eq_false, not_false_eq_true]
          exact Iff.rfl
      · rw [fin 257 2 (by decide) (by decide) (by unfold sp_wk; rw [if_neg d6', if_neg (fun z => d4 z.1), if_neg (fun z => d5 z.1)])]
        simp only [d6, d4, d5, if_true, not_false_eq_true]
        exact Iff.rfl
  · have d6' : 6 < e - s := by omega
    have k : cs_k (sp_wk x s (e - s)) = 0 := by
      unfold sp_wk
      rw [if_pos d6']
      decide
    unfold cl_sc
    rw [k, if_pos rfl]
    simp only [d6, if_false]
theorem c_scanSign {s : Nat} (hX : cl_TX X B g) (hx : cl_xR τ x) (hn : x.2 ≤ 3000) (hs : s ≤ x.2) (h3 : τ.1 34 3 = nI s) (hsm : ¬ (s < x.2 ∧ sp_small (x.1 s))) : ev_C X (d + 5) m_Re_scanSign [.ref (B + 34)] (cl_put B τ g) Q ↔ Q none (cl_put B (cl_sc τ (sp_tw x s).1 (s + (sp_tw x s).2)) g) := by
  show ev_R X (d + 5) m_Re_scanSign 0 [some (.ref (B + 34))] [] (cl_put B τ g) Q ↔ _
  have bt : ∀ (K : Option Value → xo_G → Prop), ev_C X (d + 4) m_Te_byteAt [.ref (B + 1), .int (nI s)] (cl_put B τ g) K ↔ K (some (.int (cs_bt x s))) (cl_put B τ g) := fun K => c_byteAt hx hn (by omega)
  have hi : ∀ (K : Option Value → xo_G → Prop), ev_C X (d + 4) m_Te_hasAt [.ref (B + 1), .int (nI s), .ref (X.2.2.2.2.2 2)] (cl_put B τ g) K ↔ K (some (.int (if cs_ha x [45, 62] s = true then 1 else 0))) (cl_put B τ g) := fun K => c_hasAt hX hX.2.2.2.1 hx hn (by omega)
  have hq : ∀ (K : Option Value → xo_G → Prop), ev_C X (d + 4) m_Te_hasAt [.ref (B + 1), .int (nI s), .ref (X.2.2.2.2.2 3)] (cl_put B τ g) K ↔ K (some (.int (if cs_ha x [60, 45, 62] s = true then 1 else 0))) (cl_put B τ g) := fun K => c_hasAt hX hX.2.2.2.2 hx hn (by omega)
  have a0 : nI s + 0 = nI s := nL_a0 s
  have a1 : nI s + 1 = nI (s + 1) := nI_1 s
  have a2 : nI s + 2 = nI (s + 2) := nI_add s 2
  have a3 : nI s + 3 = nI (s + 3) := nI_add s 3
  have i10 : ¬ (1 : Int32) = 0 := by decide
  simp (disch := first | exact ev_ok_i _ | exact ev_ok_r _ | exact ev_ok_n | omega | assumption | decide) only [e_Re_scanSign_0, e_Re_scanSign_1, e_Re_scanSign_4, e_Re_scanSign_5, e_Re_scanSign_8, ev_rm_n, ev_rm_i, ev_rm_r, ev_rm_l, ev_ok_n, ev_ok_i, ev_ok_r, Option.toList_some, Option.toList_none, List.cons_append, List.nil_append, true_and, and_true, true_or, or_true, reduceIte, Nat.reduceEqDiff, if_true, if_false, cg_Dp_rc, cg_Dp_text, cg_Dp_circuit, cg_Dp_reader, cg_Dp_current, cg_Dp_working, cg_Dp_saturator, cg_Dp_table, cg_Te_rc, cg_Te_bytes, cg_Te_length, cp_Te_length, cg_Ci_rc, cg_Ci_kinds, cg_Ci_firsts, cg_Ci_seconds, cg_Ci_inputVariables, cg_Ci_names, cg_Ci_nameLengths, cg_Ci_size, cp_Ci_size, cg_Ci_inputs, cp_Ci_inputs, cg_Re_rc, cg_Re_text, cg_Re_circuit, cg_Re_token, cp_Re_token, cg_Re_start, cp_Re_start, cg_Re_next, cp_Re_next, cg_Re_open, cp_Re_open, cg_Re_fault, cp_Re_fault, cg_Re_faultPlace, cp_Re_faultPlace, cg_Sa_rc, cg_Sa_circuit, cg_Sa_before, cg_Sa_trueBranches, cg_Sa_falseBranches, cg_Sa_tallies, cg_Sa_mostSteps, cp_Sa_mostSteps, cg_Sa_spent, cp_Sa_spent, cg_Ta_rc, cg_Ta_circuit, cg_Ta_words, cr_kinds, cw_kinds, cr_firsts, cw_firsts, cr_seconds, cw_seconds, cr_inputVariables, cw_inputVariables, cr_nameLengths, cw_nameLengths, cr_tallies, cw_tallies, cr_bytes, cw_bytes, cr_words, cw_words, cl_tallies, cr_names, cr_trueB, cr_falseB, cr_name, cw_name, cq_rc, cq_st, cq_size, cq_classes, cq_contradiction, cqp_size, cqp_classes, cqp_contradiction, cq_rd, cq_wr, cq_copy, cl_s_1, cl_s_2, cl_ar_1, cl_ar_2, cl_w_1, cl_w_2, h3, bt]
  rw [e_Re_scanSign_11]
  by_cases hlt : s < x.2
  · have hns : ¬ sp_small (x.1 s) := fun z => hsm ⟨hlt, z⟩
    have m1 : ¬ cs_bt x s = -1 := fun z => (cs_bt_m1 hx.2.2).mp z hlt
    have b38 : cs_bt x s = 38 ↔ x.1 s = 38 := cs_bt_in hx.2.2 hlt (v := 38) (by decide)
    have b40 : cs_bt x s = 40 ↔ x.1 s = 40 := cs_bt_in hx.2.2 hlt (v := 40) (by decide)
    have b41 : cs_bt x s = 41 ↔ x.1 s = 41 := cs_bt_in hx.2.2 hlt (v := 41) (by decide)
    have b94 : cs_bt x s = 94 ↔ x.1 s = 94 := cs_bt_in hx.2.2 hlt (v := 94) (by decide)
    have b124 : cs_bt x s = 124 ↔ x.1 s = 124 := cs_bt_in hx.2.2 hlt (v := 124) (by decide)
    have b126 : cs_bt x s = 126 ↔ x.1 s = 126 := cs_bt_in hx.2.2 hlt (v := 126) (by decide)
    have ei := cs_ha_imp hx.2.2 hlt
    have eq := cs_ha_eqv hx.2.2 hlt
    have hne : ¬ s = x.2 := by omega
    have etw : sp_tw x s = if x.1 s = 45 ∧ sp_sg x (s + 1) = 62 then (260, 2) else if x.1 s = 60 ∧ sp_sg x (s + 1) = 45 ∧ sp_sg x (s + 2) = 62 then (261, 3) else (if sp_sgn (x.1 s) then x.1 s else 262, 1) := by
      unfold sp_tw
      rw [if_neg hne, if_neg hns]
    simp only [m1, b38, b40, b41, b94, b124, b126, if_false]
    rw [etw]
    have sg : ∀ v : Int32, x.1 s = v → (v = 40 ∨ v = 41 ∨ v = 38 ∨ v = 124 ∨ v = 94 ∨ v = 126) → (if x.1 s = 45 ∧ sp_sg x (s + 1) = 62 then ((260, 2) : Int32 × Nat) else if x.1 s = 60 ∧ sp_sg x (s + 1) = 45 ∧ sp_sg x (s + 2) = 62 then (261, 3) else (if sp_sgn (x.1 s) then x.1 s else 262, 1)) = (v, 1) := fun v hv hor => by
      have n45 : ¬ v = 45 := by rcases hor with h | h | h | h | h | h <;> rw [h] <;> decide
      have n60 : ¬ v = 60 := by rcases hor with h | h | h | h | h | h <;> rw [h] <;> decide
      rw [hv, if_neg (fun z => n45 z.1), if_neg (fun z => n60 z.1), if_pos hor]
    by_cases c1 : x.1 s = 38
    · rw [if_pos c1, sg 38 c1 (by decide)]
      simp (disch := first | exact ev_ok_i _ | exact ev_ok_r _ | exact ev_ok_n | omega | assumption | decide) only [e_Re_scanSign_114, e_Re_scanSign_115, e_Re_scanSign_117, e_Re_scanSign_118, e_Re_scanSign_121, e_Re_scanSign_193, ev_rm_n, ev_rm_i, ev_rm_r, ev_rm_l, ev_ok_n, ev_ok_i, ev_ok_r, Option.toList_some, Option.toList_none, List.cons_append, List.nil_append, true_and, and_true, true_or, or_true, reduceIte, Nat.reduceEqDiff, if_true, if_false, cg_Dp_rc, cg_Dp_text, cg_Dp_circuit, cg_Dp_reader, cg_Dp_current, cg_Dp_working, cg_Dp_saturator, cg_Dp_table, cg_Te_rc, cg_Te_bytes, cg_Te_length, cp_Te_length, cg_Ci_rc, cg_Ci_kinds, cg_Ci_firsts, cg_Ci_seconds, cg_Ci_inputVariables, cg_Ci_names, cg_Ci_nameLengths, cg_Ci_size, cp_Ci_size, cg_Ci_inputs, cp_Ci_inputs, cg_Re_rc, cg_Re_text, cg_Re_circuit, cg_Re_token, cp_Re_token, cg_Re_start, cp_Re_start, cg_Re_next, cp_Re_next, cg_Re_open, cp_Re_open, cg_Re_fault, cp_Re_fault, cg_Re_faultPlace, cp_Re_faultPlace, cg_Sa_rc, cg_Sa_circuit, cg_Sa_before, cg_Sa_trueBranches, cg_Sa_falseBranches, cg_Sa_tallies, cg_Sa_mostSteps, cp_Sa_mostSteps, cg_Sa_spent, cp_Sa_spent, cg_Ta_rc, cg_Ta_circuit, cg_Ta_words, cr_kinds, cw_kinds, cr_firsts, cw_firsts, cr_seconds, cw_seconds, cr_inputVariables, cw_inputVariables, cr_nameLengths, cw_nameLengths, cr_tallies, cw_tallies, cr_bytes, cw_bytes, cr_words, cw_words, cl_tallies, cr_names, cr_trueB, cr_falseB, cr_name, cw_name, cq_rc, cq_st, cq_size, cq_classes, cq_contradiction, cqp_size, cqp_classes, cqp_contradiction, cq_rd, cq_wr, cq_copy, cl_s_1, cl_s_2, cl_ar_1, cl_ar_2, cl_w_1, cl_w_2, c_found, h3, a1]
      exact Iff.rfl
    · rw [if_neg c1]
      by_cases c2 : x.1 s = 40
      · rw [if_pos c2, sg 40 c2 (by decide)]
        simp (disch := first | exact ev_ok_i _ | exact ev_ok_r _ | exact ev_ok_n | omega | assumption | decide) only [e_Re_scanSign_85, e_Re_scanSign_86, e_Re_scanSign_87, e_Re_scanSign_88, e_Re_scanSign_91, e_Re_scanSign_193, ev_rm_n, ev_rm_i, ev_rm_r, ev_rm_l, ev_ok_n, ev_ok_i, ev_ok_r, Option.toList_some, Option.toList_none, List.cons_append, List.nil_append, true_and, and_true, true_or, or_true, reduceIte, Nat.reduceEqDiff, if_true, if_false, cg_Dp_rc, cg_Dp_text, cg_Dp_circuit, cg_Dp_reader, cg_Dp_current, cg_Dp_working, cg_Dp_saturator, cg_Dp_table, cg_Te_rc, cg_Te_bytes, cg_Te_length, cp_Te_length, cg_Ci_rc, cg_Ci_kinds, cg_Ci_firsts, cg_Ci_seconds, cg_Ci_inputVariables, cg_Ci_names, cg_Ci_nameLengths, cg_Ci_size, cp_Ci_size, cg_Ci_inputs, cp_Ci_inputs, cg_Re_rc, cg_Re_text, cg_Re_circuit, cg_Re_token, cp_Re_token, cg_Re_start, cp_Re_start, cg_Re_next, cp_Re_next, cg_Re_open, cp_Re_open, cg_Re_fault, cp_Re_fault, cg_Re_faultPlace, cp_Re_faultPlace, cg_Sa_rc, cg_Sa_circuit, cg_Sa_before, cg_Sa_trueBranches, cg_Sa_falseBranches, cg_Sa_tallies, cg_Sa_mostSteps, cp_Sa_mostSteps, cg_Sa_spent, cp_Sa_spent, cg_Ta_rc, cg_Ta_circuit, cg_Ta_words, cr_kinds, cw_kinds, cr_firsts, cw_firsts, cr_seconds, cw_seconds, cr_inputVariables, cw_inputVariables, cr_nameLengths, cw_nameLengths, cr_tallies, cw_tallies, cr_bytes, cw_bytes, cr_words, cw_words, cl_tallies, cr_names, cr_trueB, cr_falseB, cr_name, cw_name, cq_rc, cq_st, cq_size, cq_classes, cq_contradiction, cqp_size, cqp_classes, cqp_contradiction, cq_rd, cq_wr, cq_copy, cl_s_1, cl_s_2, cl_ar_1, cl_ar_2, cl_w_1, cl_w_2, c_found, h3, a1]
        exact Iff.rfl
      · rw [if_neg c2]
        by_cases c3 : x.1 s = 41
        · rw [if_pos c3, sg 41 c3 (by decide)]
          simp (disch := first | exact ev_ok_i _ | exact ev_ok_r _ | exact ev_ok_n | omega | assumption | decide) only [e_Re_scanSign_94, e_Re_scanSign_95, e_Re_scanSign_97, e_Re_scanSign_98, e_Re_scanSign_101, e_Re_scanSign_193, ev_rm_n, ev_rm_i, ev_rm_r, ev_rm_l, ev_ok_n, ev_ok_i, ev_ok_r, Option.toList_some, Option.toList_none, List.cons_append, List.nil_append, true_and, and_true, true_or, or_true, reduceIte, Nat.reduceEqDiff, if_true, if_false, cg_Dp_rc, cg_Dp_text, cg_Dp_circuit, cg_Dp_reader, cg_Dp_current, cg_Dp_working, cg_Dp_saturator, cg_Dp_table, cg_Te_rc, cg_Te_bytes, cg_Te_length, cp_Te_length, cg_Ci_rc, cg_Ci_kinds, cg_Ci_firsts, cg_Ci_seconds, cg_Ci_inputVariables, cg_Ci_names, cg_Ci_nameLengths, cg_Ci_size, cp_Ci_size, cg_Ci_inputs, cp_Ci_inputs, cg_Re_rc, cg_Re_text, cg_Re_circuit, cg_Re_token, cp_Re_token, cg_Re_start, cp_Re_start, cg_Re_next, cp_Re_next, cg_Re_open, cp_Re_open, cg_Re_fault, cp_Re_fault, cg_Re_faultPlace, cp_Re_faultPlace, cg_Sa_rc, cg_Sa_circuit, cg_Sa_before, cg_Sa_trueBranches, cg_Sa_falseBranches, cg_Sa_tallies, cg_Sa_mostSteps, cp_Sa_mostSteps, cg_Sa_spent, cp_Sa_spent, cg_Ta_rc, cg_Ta_circuit, cg_Ta_words, cr_kinds, cw_kinds, cr_firsts, cw_firsts, cr_seconds, cw_seconds, cr_inputVariables, cw_inputVariables, cr_nameLengths, cw_nameLengths, cr_tallies, cw_tallies, cr_bytes, cw_bytes, cr_words, cw_words, cl_tallies, cr_names, cr_trueB, cr_falseB, cr_name, cw_name, cq_rc, cq_st, cq_size, cq_classes, cq_contradiction, cqp_size, cqp_classes, cqp_contradiction, cq_rd, cq_wr, cq_copy, cl_s_1, cl_s_2, cl_ar_1, cl_ar_2, cl_w_1, cl_w_2, c_found, h3, a1]
          exact Iff.rfl
        · rw [if_neg c3]
          by_cases c4 : x.1 s = 94
          · rw [if_pos c4, sg 94 c4 (by decide)]
            simp (disch := first | exact ev_ok_i _ | exact ev_ok_r _ | exact ev_ok_n | omega | assumption | decide) only [e_Re_scanSign_124, e_Re_scanSign_125, e_Re_scanSign_127, e_Re_scanSign_128, e_Re_scanSign_131, e_Re_scanSign_193, ev_rm_n, ev_rm_i, ev_rm_r, ev_rm_l, ev_ok_n, ev_ok_i, ev_ok_r, Option.toList_some, Option.toList_none, List.cons_append, List.nil_append, true_and, and_true, true_or, or_true, reduceIte, Nat.reduceEqDiff, if_true, if_false, cg_Dp_rc, cg_Dp_text, cg_Dp_circuit, cg_Dp_reader, cg_Dp_current, cg_Dp_working, cg_Dp_saturator, cg_Dp_table, cg_Te_rc, cg_Te_bytes, cg_Te_length, cp_Te_length, cg_Ci_rc, cg_Ci_kinds, cg_Ci_firsts, cg_Ci_seconds, cg_Ci_inputVariables, cg_Ci_names, cg_Ci_nameLengths, cg_Ci_size, cp_Ci_size, cg_Ci_inputs, cp_Ci_inputs, cg_Re_rc, cg_Re_text, cg_Re_circuit, cg_Re_token, cp_Re_token, cg_Re_start, cp_Re_start, cg_Re_next, cp_Re_next, cg_Re_open, cp_Re_open, cg_Re_fault, cp_Re_fault, cg_Re_faultPlace, cp_Re_faultPlace, cg_Sa_rc, cg_Sa_circuit, cg_Sa_before, cg_Sa_trueBranches, cg_Sa_falseBranches, cg_Sa_tallies, cg_Sa_mostSteps, cp_Sa_mostSteps, cg_Sa_spent, cp_Sa_spent, cg_Ta_rc, cg_Ta_circuit, cg_Ta_words, cr_kinds, cw_kinds, cr_firsts, cw_firsts, cr_seconds, cw_seconds, cr_inputVariables, cw_inputVariables, cr_nameLengths, cw_nameLengths, cr_tallies, cw_tallies, cr_bytes, cw_bytes, cr_words, cw_words, cl_tallies, cr_names, cr_trueB, cr_falseB, cr_name, cw_name, cq_rc, cq_st, cq_size, cq_classes, cq_contradiction, cqp_size, cqp_classes, cqp_contradiction, cq_rd, cq_wr, cq_copy, cl_s_1, cl_s_2, cl_ar_1, cl_ar_2, cl_w_1, cl_w_2, c_found, h3, a1]
            exact Iff.rfl
          · rw [if_neg c4]
            by_cases c5 : x.1 s = 124
            · rw [if_pos c5, sg 124 c5 (by decide)]
              simp (disch := first | exact ev_ok_i _ | exact ev_ok_r _ | exact ev_ok_n | omega | assumption | decide) only [e_Re_scanSign_134, e_Re_scanSign_135, e_Re_scanSign_137, e_Re_scanSign_138, e_Re_scanSign_141, e_Re_scanSign_193, ev_rm_n, ev_rm_i, ev_rm_r, ev_rm_l, ev_ok_n, ev_ok_i, ev_ok_r, Option.toList_some, Option.toList_none, List.cons_append, List.nil_append, true_and, and_true, true_or, or_true, reduceIte, Nat.reduceEqDiff, if_true, if_false, cg_Dp_rc, cg_Dp_text, cg_Dp_circuit, cg_Dp_reader, cg_Dp_current, cg_Dp_working, cg_Dp_saturator, cg_Dp_table, cg_Te_rc, cg_Te_bytes, cg_Te_length, cp_Te_length, cg_Ci_rc, cg_Ci_kinds, cg_Ci_firsts, cg_Ci_seconds, cg_Ci_inputVariables, cg_Ci_names, cg_Ci_nameLengths, cg_Ci_size, cp_Ci_size, cg_Ci_inputs, cp_Ci_inputs, cg_Re_rc, cg_Re_text, cg_Re_circuit, cg_Re_token, cp_Re_token, cg_Re_start, cp_Re_start, cg_Re_next, cp_Re_next, cg_Re_open, cp_Re_open, cg_Re_fault, cp_Re_fault, cg_Re_faultPlace, cp_Re_faultPlace, cg_Sa_rc, cg_Sa_circuit, cg_Sa_before, cg_Sa_trueBranches, cg_Sa_falseBranches, cg_Sa_tallies, cg_Sa_mostSteps, cp_Sa_mostSteps, cg_Sa_spent, cp_Sa_spent, cg_Ta_rc, cg_Ta_circuit, cg_Ta_words, cr_kinds, cw_kinds, cr_firsts, cw_firsts, cr_seconds, cw_seconds, cr_inputVariables, cw_inputVariables, cr_nameLengths, cw_nameLengths, cr_tallies, cw_tallies, cr_bytes, cw_bytes, cr_words, cw_words, cl_tallies, cr_names, cr_trueB, cr_falseB, cr_name, cw_name, cq_rc, cq_st, cq_size, cq_classes, cq_contradiction, cqp_size, cqp_classes, cqp_contradiction, cq_rd, cq_wr, cq_copy, cl_s_1, cl_s_2, cl_ar_1, cl_ar_2, cl_w_1, cl_w_2, c_found, h3, a1]
              exact Iff.rfl
            · rw [if_neg c5]
              by_cases c6 : x.1 s = 126
              · rw [if_pos c6, sg 126 c6 (by decide)]
                simp (disch := first | exact ev_ok_i _ | exact ev_ok_r _ | exact ev_ok_n | omega | assumption | decide) only [e_Re_scanSign_104, e_Re_scanSign_105, e_Re_scanSign_107, e_Re_scanSign_108, e_Re_scanSign_111, e_Re_scanSign_193, ev_rm_n, ev_rm_i, ev_rm_r, ev_rm_l, ev_ok_n, ev_ok_i, ev_ok_r, Option.toList_some, Option.toList_none, List.cons_append, List.nil_append, true_and, and_true, true_or, or_true, reduceIte, Nat.reduceEqDiff, if_true, if_false, cg_Dp_rc, cg_Dp_text, cg_Dp_circuit, cg_Dp_reader, cg_Dp_current, cg_Dp_working, cg_Dp_saturator, cg_Dp_table, cg_Te_rc, cg_Te_bytes, cg_Te_length, cp_Te_length, cg_Ci_rc, cg_Ci_kinds, cg_Ci_firsts, cg_Ci_seconds, cg_Ci_inputVariables, cg_Ci_names, cg_Ci_nameLengths, cg_Ci_size, cp_Ci_size, cg_Ci_inputs, cp_Ci_inputs, cg_Re_rc, cg_Re_text, cg_Re_circuit, cg_Re_token, cp_Re_token, cg_Re_start, cp_Re_start, cg_Re_next, cp_Re_next, cg_Re_open, cp_Re_open, cg_Re_fault, cp_Re_fault, cg_Re_faultPlace, cp_Re_faultPlace, cg_Sa_rc, cg_Sa_circuit, cg_Sa_before, cg_Sa_trueBranches, cg_Sa_falseBranches, cg_Sa_tallies, cg_Sa_mostSteps, cp_Sa_mostSteps, cg_Sa_spent, cp_Sa_spent, cg_Ta_rc, cg_Ta_circuit, cg_Ta_words, cr_kinds, cw_kinds, cr_firsts, cw_firsts, cr_seconds, cw_seconds, cr_inputVariables, cw_inputVariables, cr_nameLengths, cw_nameLengths, cr_tallies, cw_tallies, cr_bytes, cw_bytes, cr_words, cw_words, cl_tallies, cr_names, cr_trueB, cr_falseB, cr_name, cw_name, cq_rc, cq_st, cq_size, cq_classes, cq_contradiction, cqp_size, cqp_classes, cqp_contradiction, cq_rd, cq_wr, cq_copy, cl_s_1, cl_s_2, cl_ar_1, cl_ar_2, cl_w_1, cl_w_2, c_found, h3, a1]
                exact Iff.rfl
              · rw [if_neg c6]
                have nsg : ¬ sp_sgn (x.1 s) := fun z => by
                  rcases z with z | z | z | z | z | z
                  · exact c2 z
                  · exact c3 z
                  · exact c1 z
                  · exact c5 z
                  · exact c4 z
                  · exact c6 z
                by_cases c7 : x.1 s = 45 ∧ sp_sg x (s + 1) = 62
                · simp (disch := first | exact ev_ok_i _ | exact ev_ok_r _ | exact ev_ok_n | omega | assumption | decide) only [e_Re_scanSign_144, e_Re_scanSign_145, e_Re_scanSign_148, e_Re_scanSign_149, e_Re_scanSign_152, e_Re_scanSign_154, e_Re_scanSign_157, e_Re_scanSign_160, e_Re_scanSign_161, e_Re_scanSign_163, e_Re_scanSign_164, e_Re_scanSign_167, e_Re_scanSign_193, ev_rm_n, ev_rm_i, ev_rm_r, ev_rm_l, ev_ok_n, ev_ok_i, ev_ok_r, Option.toList_some, Option.toList_none, List.cons_append, List.nil_append, true_and, and_true, true_or, or_true, reduceIte, Nat.reduceEqDiff, if_true, if_false, cg_Dp_rc, cg_Dp_text, cg_Dp_circuit, cg_Dp_reader, cg_Dp_current, cg_Dp_working, cg_Dp_saturator, cg_Dp_table, cg_Te_rc, cg_Te_bytes, cg_Te_length, cp_Te_length, cg_Ci_rc, cg_Ci_kinds, cg_Ci_firsts, cg_Ci_seconds, cg_Ci_inputVariables, cg_Ci_names, cg_Ci_nameLengths, cg_Ci_size, cp_Ci_size, cg_Ci_inputs, cp_Ci_inputs, cg_Re_rc, cg_Re_text, cg_Re_circuit, cg_Re_token, cp_Re_token, cg_Re_start, cp_Re_start, cg_Re_next, cp_Re_next, cg_Re_open, cp_Re_open, cg_Re_fault, cp_Re_fault, cg_Re_faultPlace, cp_Re_faultPlace, cg_Sa_rc, cg_Sa_circuit, cg_Sa_before, cg_Sa_trueBranches, cg_Sa_falseBranches, cg_Sa_tallies, cg_Sa_mostSteps, cp_Sa_mostSteps, cg_Sa_spent, cp_Sa_spent, cg_Ta_rc, cg_Ta_circuit, cg_Ta_words, cr_kinds, cw_kinds, cr_firsts, cw_firsts, cr_seconds, cw_seconds, cr_inputVariables, cw_inputVariables, cr_nameLengths, cw_nameLengths, cr_tallies, cw_tallies, cr_bytes, cw_bytes, cr_words, cw_words, cl_tallies, cr_names, cr_trueB, cr_falseB, cr_name, cw_name, cq_rc, cq_st, cq_size, cq_classes, cq_contradiction, cqp_size, cqp_classes, cqp_contradiction, cq_rd, cq_wr, cq_copy, cl_s_1, cl_s_2, cl_ar_1, cl_ar_2, cl_w_1, cl_w_2, h3, hi, ei, c7, and_self, if_true, i10, if_false, c_found, a2]
                  exact Iff.rfl
                · simp (disch := first | exact ev_ok_i _ | exact ev_ok_r _ | exact ev_ok_n | omega | assumption | decide) only [e_Re_scanSign_144, e_Re_scanSign_145, e_Re_scanSign_148, e_Re_scanSign_149, e_Re_scanSign_152, e_Re_scanSign_154, e_Re_scanSign_157, ev_rm_n, ev_rm_i, ev_rm_r, ev_rm_l, ev_ok_n, ev_ok_i, ev_ok_r, Option.toList_some, Option.toList_none, List.cons_append, List.nil_append, true_and, and_true, true_or, or_true, reduceIte, Nat.reduceEqDiff, if_true, if_false, cg_Dp_rc, cg_Dp_text, cg_Dp_circuit, cg_Dp_reader, cg_Dp_current, cg_Dp_working, cg_Dp_saturator, cg_Dp_table, cg_Te_rc, cg_Te_bytes, cg_Te_length, cp_Te_length, cg_Ci_rc, cg_Ci_kinds, cg_Ci_firsts, cg_Ci_seconds, cg_Ci_inputVariables, cg_Ci_names, cg_Ci_nameLengths, cg_Ci_size, cp_Ci_size, cg_Ci_inputs, cp_Ci_inputs, cg_Re_rc, cg_Re_text, cg_Re_circuit, cg_Re_token, cp_Re_token, cg_Re_start, cp_Re_start, cg_Re_next, cp_Re_next, cg_Re_open, cp_Re_open, cg_Re_fault, cp_Re_fault, cg_Re_faultPlace, cp_Re_faultPlace, cg_Sa_rc, cg_Sa_circuit, cg_Sa_before, cg_Sa_trueBranches, cg_Sa_falseBranches, cg_Sa_tallies, cg_Sa_mostSteps, cp_Sa_mostSteps, cg_Sa_spent, cp_Sa_spent, cg_Ta_rc, cg_Ta_circuit, cg_Ta_words, cr_kinds, cw_kinds, cr_firsts, cw_firsts, cr_seconds, cw_seconds, cr_inputVariables, cw_inputVariables, cr_nameLengths, cw_nameLengths, cr_tallies, cw_tallies, cr_bytes, cw_bytes, cr_words, cw_words, cl_tallies, cr_names, cr_trueB, cr_falseB, cr_name, cw_name, cq_rc, cq_st, cq_size, cq_classes, cq_contradiction, cqp_size, cqp_classes, cqp_contradiction, cq_rd, cq_wr, cq_copy, cl_s_1, cl_s_2, cl_ar_1, cl_ar_2, cl_w_1, cl_w_2, h3, hi, ei, c7, if_true, if_false]
                  by_cases c8 : x.1 s = 60 ∧ sp_sg x (s + 1) = 45 ∧ sp_sg x (s + 2) = 62
                  · simp (disch := first | exact ev_ok_i _ | exact ev_ok_r _ | exact ev_ok_n | omega | assumption | decide) only [e_Re_scanSign_170, e_Re_scanSign_171, e_Re_scanSign_174, e_Re_scanSign_175, e_Re_scanSign_178, e_Re_scanSign_180, e_Re_scanSign_183, e_Re_scanSign_186, e_Re_scanSign_187, e_Re_scanSign_189, e_Re_scanSign_190, e_Re_scanSign_193, ev_rm_n, ev_rm_i, ev_rm_r, ev_rm_l, ev_ok_n, ev_ok_i, ev_ok_r, Option.toList_some, Option.toList_none, List.cons_append, List.nil_append, true_and, and_true, true_or, or_true, reduceIte, Nat.reduceEqDiff, if_true, if_false, cg_Dp_rc, cg_Dp_text, cg_Dp_circuit, cg_Dp_reader, cg_Dp_current, cg_Dp_working, cg_Dp_saturator, cg_Dp_table, cg_Te_rc, cg_Te_bytes, cg_Te_length, cp_Te_length, cg_Ci_rc, cg_Ci_kinds, cg_Ci_firsts, cg_Ci_seconds, cg_Ci_inputVariables, cg_Ci_names, cg_Ci_nameLengths, cg_Ci_size, cp_Ci_size, cg_Ci_inputs, cp_Ci_inputs, cg_Re_rc, cg_Re_text, cg_Re_circuit, cg_Re_token, cp_Re_token, cg_Re_start, cp_Re_start, cg_Re_next, cp_Re_next, cg_Re_open, cp_Re_open, cg_Re_fault, cp_Re_fault, cg_Re_faultPlace, cp_Re_faultPlace, cg_Sa_rc, cg_Sa_circuit, cg_Sa_before, cg_Sa_trueBranches, cg_Sa_falseBranches, cg_Sa_tallies, cg_Sa_mostSteps, cp_Sa_mostSteps, cg_Sa_spent, cp_Sa_spent, cg_Ta_rc, cg_Ta_circuit, cg_Ta_words, cr_kinds, cw_kinds, cr_firsts, cw_firsts, cr_seconds, cw_seconds, cr_inputVariables, cw_inputVariables, cr_nameLengths, cw_nameLengths, cr_tallies, cw_tallies, cr_bytes, cw_bytes, cr_words, cw_words, cl_tallies, cr_names, cr_trueB, cr_falseB, cr_name, cw_name, cq_rc, cq_st, cq_size, cq_classes, cq_contradiction, cqp_size, cqp_classes, cqp_contradiction, cq_rd, cq_wr, cq_copy, cl_s_1, cl_s_2, cl_ar_1, cl_ar_2, cl_w_1, cl_w_2, h3, hq, eq, c8, and_self, if_true, i10, if_false, c_found, a3]
                    exact Iff.rfl
                  · simp (disch := first | exact ev_ok_i _ | exact ev_ok_r _ | exact ev_ok_n | omega | assumption | decide) only [e_Re_scanSign_170, e_Re_scanSign_171, e_Re_scanSign_174, e_Re_scanSign_175, e_Re_scanSign_178, e_Re_scanSign_180, e_Re_scanSign_183, e_Re_scanSign_193, ev_rm_n, ev_rm_i, ev_rm_r, ev_rm_l, ev_ok_n, ev_ok_i, ev_ok_r, Option.toList_some, Option.toList_none, List.cons_append, List.nil_append, true_and, and_true, true_or, or_true, reduceIte, Nat.reduceEqDiff, if_true, if_false, cg_Dp_rc, cg_Dp_text, cg_Dp_circuit, cg_Dp_reader, cg_Dp_current, cg_Dp_working, cg_Dp_saturator, cg_Dp_table, cg_Te_rc, cg_Te_bytes, cg_Te_length, cp_Te_length, cg_Ci_rc, cg_Ci_kinds, cg_Ci_firsts, cg_Ci_seconds, cg_Ci_inputVariables, cg_Ci_names, cg_Ci_nameLengths, cg_Ci_size, cp_Ci_size, cg_Ci_inputs, cp_Ci_inputs, cg_Re_rc, cg_Re_text, cg_Re_circuit, cg_Re_token, cp_Re_token, cg_Re_start, cp_Re_start, cg_Re_next, cp_Re_next, cg_Re_open, cp_Re_open, cg_Re_fault, cp_Re_fault, cg_Re_faultPlace, cp_Re_faultPlace, cg_Sa_rc, cg_Sa_circuit, cg_Sa_before, cg_Sa_trueBranches, cg_Sa_falseBranches, cg_Sa_tallies, cg_Sa_mostSteps, cp_Sa_mostSteps, cg_Sa_spent, cp_Sa_spent, cg_Ta_rc, cg_Ta_circuit, cg_Ta_words, cr_kinds, cw_kinds, cr_firsts, cw_firsts, cr_seconds, cw_seconds, cr_inputVariables, cw_inputVariables, cr_nameLengths, cw_nameLengths, cr_tallies, cw_tallies, cr_bytes, cw_bytes, cr_words, cw_words, cl_tallies, cr_names, cr_trueB, cr_falseB, cr_name, cw_name, cq_rc, cq_st, cq_size, cq_classes, cq_contradiction, cqp_size, cqp_classes, cqp_contradiction, cq_rd, cq_wr, cq_copy, cl_s_1, cl_s_2, cl_ar_1, cl_ar_2, cl_w_1, cl_w_2, h3, hq, eq, c8, if_true, if_false, nsg]
                    exact Iff.rfl
  · have m1 : cs_bt x s = -1 := (cs_bt_m1 hx.2.2).mpr hlt
    have hne : s = x.2 := by omega
    have etw : sp_tw x s = (256, 0) := by
      unfold sp_tw
      rw [if_pos hne]
    rw [etw, if_pos m1]
    simp (disch := first | exact ev_ok_i _ | exact ev_ok_r _ | exact ev_ok_n | omega | assumption | decide) only [e_Re_scanSign_76, e_Re_scanSign_77, e_Re_scanSign_78, e_Re_scanSign_79, e_Re_scanSign_82, e_Re_scanSign_193, ev_rm_n, ev_rm_i, ev_rm_r, ev_rm_l, ev_ok_n, ev_ok_i, ev_ok_r, Option.toList_some, Option.toList_none, List.cons_append, List.nil_append, true_and, and_true, true_or, or_true, reduceIte, Nat.reduceEqDiff, if_true, if_false, cg_Dp_rc, cg_Dp_text, cg_Dp_circuit, cg_Dp_reader, cg_Dp_current, cg_Dp_working, cg_Dp_saturator, cg_Dp_table, cg_Te_rc, cg_Te_bytes, cg_Te_length, cp_Te_length, cg_Ci_rc, cg_Ci_kinds, cg_Ci_firsts, cg_Ci_seconds, cg_Ci_inputVariables, cg_Ci_names, cg_Ci_nameLengths, cg_Ci_size, cp_Ci_size, cg_Ci_inputs, cp_Ci_inputs, cg_Re_rc, cg_Re_text, cg_Re_circuit, cg_Re_token, cp_Re_token, cg_Re_start, cp_Re_start, cg_Re_next, cp_Re_next, cg_Re_open, cp_Re_open, cg_Re_fault, cp_Re_fault, cg_Re_faultPlace, cp_Re_faultPlace, cg_Sa_rc, cg_Sa_circuit, cg_Sa_before, cg_Sa_trueBranches, cg_Sa_falseBranches, cg_Sa_tallies, cg_Sa_mostSteps, cp_Sa_mostSteps, cg_Sa_spent, cp_Sa_spent, cg_Ta_rc, cg_Ta_circuit, cg_Ta_words, cr_kinds, cw_kinds, cr_firsts, cw_firsts, cr_seconds, cw_seconds, cr_inputVariables, cw_inputVariables, cr_nameLengths, cw_nameLengths, cr_tallies, cw_tallies, cr_bytes, cw_bytes, cr_words, cw_words, cl_tallies, cr_names, cr_trueB, cr_falseB, cr_name, cw_name, cq_rc, cq_st, cq_size, cq_classes, cq_contradiction, cqp_size, cqp_classes, cqp_contradiction, cq_rd, cq_wr, cq_copy, cl_s_1, cl_s_2, cl_ar_1, cl_ar_2, cl_w_1, cl_w_2, c_found, h3, a0]
    exact Iff.rfl
end CR2
