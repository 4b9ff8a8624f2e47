/-! passes; a saturation to any depth; the tallies -/
section CS4
variable {X : xo_X} {d B : Nat} {τ : cl_S} {g : xo_G} {Q : Option Value → xo_G → Prop} {j n ms : Nat} {kd o1 o2 : Nat → Nat}
theorem c_pass_end {v : Nat} {dp : Value} {e : Nat} (hj : j ∈ cl_eo) (hn : n ≤ 120) (hv : v < 2 ^ 31) (h1 : τ.1 j 1 = nI n) (hz : τ.1 j 3 = 0 ∨ τ.1 j 3 = 1) (h : ¬ τ.1 39 6 = 0 ∨ ¬ τ.1 j 3 = 0) (hQ : Q none (cl_put B τ g)) : ev_R X (e + 2) m_Sa_pass 12 [some (.ref (B + 39)), some (.ref (B + j)), some dp, some (.int (nI v))] [] (cl_put B τ g) Q := by
  have h2 : ¬ (τ.1 39 6 = 0 ∧ τ.1 j 3 = 0) := fun z => h.elim (fun y => y z.1) (fun y => y z.2)
  simp (disch := first | exact ev_ok_i _ | exact ev_ok_r _ | exact ev_ok_n | omega | assumption | decide) only [e_Sa_pass_12, e_Sa_pass_13, e_Sa_pass_14, e_Sa_pass_17, e_Sa_pass_20, e_Sa_pass_21, e_Sa_pass_22, e_Sa_pass_25, e_Sa_pass_52, ev_rm_n, ev_rm_i, ev_rm_r, ev_rm_l, ev_ok_n, ev_ok_i, ev_ok_r, Option.toList_some, Option.toList_none, List.cons_append, List.nil_append, true_and, and_true, true_or, or_true, reduceIte, Nat.reduceEqDiff, if_true, if_false, cg_Dp_rc, cg_Dp_text, cg_Dp_circuit, cg_Dp_reader, cg_Dp_current, cg_Dp_working, cg_Dp_saturator, cg_Dp_table, cg_Te_rc, cg_Te_bytes, cg_Te_length, cp_Te_length, cg_Ci_rc, cg_Ci_kinds, cg_Ci_firsts, cg_Ci_seconds, cg_Ci_inputVariables, cg_Ci_names, cg_Ci_nameLengths, cg_Ci_size, cp_Ci_size, cg_Ci_inputs, cp_Ci_inputs, cg_Re_rc, cg_Re_text, cg_Re_circuit, cg_Re_token, cp_Re_token, cg_Re_start, cp_Re_start, cg_Re_next, cp_Re_next, cg_Re_open, cp_Re_open, cg_Re_fault, cp_Re_fault, cg_Re_faultPlace, cp_Re_faultPlace, cg_Sa_rc, cg_Sa_circuit, cg_Sa_before, cg_Sa_trueBranches, cg_Sa_falseBranches, cg_Sa_tallies, cg_Sa_mostSteps, cp_Sa_mostSteps, cg_Sa_spent, cp_Sa_spent, cg_Ta_rc, cg_Ta_circuit, cg_Ta_words, cr_kinds, cw_kinds, cr_firsts, cw_firsts, cr_seconds, cw_seconds, cr_inputVariables, cw_inputVariables, cr_nameLengths, cw_nameLengths, cr_tallies, cw_tallies, cr_bytes, cw_bytes, cr_words, cw_words, cl_tallies, cr_names, cr_trueB, cr_falseB, cr_name, cw_name, cq_rc, cq_st, cq_size, cq_classes, cq_contradiction, cqp_size, cqp_classes, cqp_contradiction, cq_rd, cq_wr, cq_copy, cl_s_1, cl_s_2, cl_ar_1, cl_ar_2, cl_w_1, cl_w_2, c_eqSize, c_goesOn, h1, h2, ite_self]
  exact hQ
theorem sp_cs_ok {k v : Nat} {E : sp_E} {t : sp_T} (hw : sp_wf n kd o1 o2) (h0 : 1 ≤ n) (hv : v < n) (ho : sp_ok n ms E t) : sp_ok n ms (cs_sp (sp_sk n kd o1 o2 ms k) E v t).2.1 (cs_sp (sp_sk n kd o1 o2 ms k) E v t).2.2 := by
  have o1' := sp_ok_j (a := 2 * v) (b := 0) ho ho.2.1 (by omega) (by omega)
  have g1 := sp_sk_gd (ms := ms) hw h0 k _ _ o1'
  unfold cs_sp
  dsimp only
  generalize sp_sk n kd o1 o2 ms k (sp_j E (2 * v) 0) t = z1 at g1
  split
  · exact sp_ok_t ho g1.2.1
  · have o2' := sp_ok_j (t2 := sp_tb z1.2.2 z1.2.1.2) (a := 2 * v) (b := 1) ho g1.2.1 (by omega) (by omega)
    have g2 := sp_sk_gd (ms := ms) hw h0 k _ _ o2'
    generalize sp_sk n kd o1 o2 ms k (sp_j E (2 * v) 1) (sp_tb z1.2.2 z1.2.1.2) = z2 at g2
    split
    · exact sp_ok_t ho g2.2.1
    · exact sp_ok_ag ho g1 g2 g2.2.1
theorem c_pass_loop {k : Nat} (ih : cl_SK X d B g n ms kd o1 o2 k) (hk : k < 4) (hj : j ∈ cl_eo) (h40 : ¬ j = 40) (hjk : j < 45 ∨ 45 + 4 * (k + 1) ≤ j) (hw : sp_wf n kd o1 o2) : ∀ (m v : Nat) (E : sp_E) (t : sp_T) (τ : cl_S), v + m = n → 1 ≤ v → cl_ci τ n kd o1 o2 → τ.1 39 5 = nI ms → τ.1 39 6 = 0 → sp_ok n ms E t → E.2 = false → cl_E τ j n E → cl_tt τ t → (∀ τ2, cl_E τ2 j n (sp_ps (sp_sk n kd o1 o2 ms k) m v E t).2.1 → cl_tt τ2 (sp_ps (sp_sk n kd o1 o2 ms k) m v E t).2.2 → cl_ke (cl_JK (k + 1) j) τ τ2 → τ2.1 39 5 = nI ms → τ2.1 39 6 = sp_zb (sp_ps (sp_sk n kd o1 o2 ms k) m v E t).1 → Q none (cl_put B τ2 g)) → ev_R X (d + 6 + 4 * k + 3) m_Sa_pass 12 [some (.ref (B + 39)), some (.ref (B + j)), some (.int (nI (k + 1))), some (.int (nI v))] [] (cl_put B τ g) Q := by
  intro m
  induction m with
  | zero =>
    intro v E t τ hv hv1 hc hm h6 ho z0 r ht hQ
    have e : v = n := by omega
    subst e
    have hn := hc.1.2.2
    simp (disch := first | exact ev_ok_i _ | exact ev_ok_r _ | exact ev_ok_n | omega | assumption | decide) only [e_Sa_pass_12, e_Sa_pass_13, e_Sa_pass_14, e_Sa_pass_17, e_Sa_pass_52, ev_rm_n, ev_rm_i, ev_rm_r, ev_rm_l, ev_ok_n, ev_ok_i, ev_ok_r, Option.toList_some, Option.toList_none, List.cons_append, List.nil_append, true_and, and_true, true_or, or_true, reduceIte, Nat.reduceEqDiff, if_true, if_false, cg_Dp_rc, cg_Dp_text, cg_Dp_circuit, cg_Dp_reader, cg_Dp_current, cg_Dp_working, cg_Dp_saturator, cg_Dp_table, cg_Te_rc, cg_Te_bytes, cg_Te_length, cp_Te_length, cg_Ci_rc, cg_Ci_kinds, cg_Ci_firsts, cg_Ci_seconds, cg_Ci_inputVariables, cg_Ci_names, cg_Ci_nameLengths, cg_Ci_size, cp_Ci_size, cg_Ci_inputs, cp_Ci_inputs, cg_Re_rc, cg_Re_text, cg_Re_circuit, cg_Re_token, cp_Re_token, cg_Re_start, cp_Re_start, cg_Re_next, cp_Re_next, cg_Re_open, cp_Re_open, cg_Re_fault, cp_Re_fault, cg_Re_faultPlace, cp_Re_faultPlace, cg_Sa_rc, cg_Sa_circuit, cg_Sa_before, cg_Sa_trueBranches, cg_Sa_falseBranches, cg_Sa_tallies, cg_Sa_mostSteps, cp_Sa_mostSteps, cg_Sa_spent, cp_Sa_spent, cg_Ta_rc, cg_Ta_circuit, cg_Ta_words, cr_kinds, cw_kinds, cr_firsts, cw_firsts, cr_seconds, cw_seconds, cr_inputVariables, cw_inputVariables, cr_nameLengths, cw_nameLengths, cr_tallies, cw_tallies, cr_bytes, cw_bytes, cr_words, cw_words, cl_tallies, cr_names, cr_trueB, cr_falseB, cr_name, cw_name, cq_rc, cq_st, cq_size, cq_classes, cq_contradiction, cqp_size, cqp_classes, cqp_contradiction, cq_rd, cq_wr, cq_copy, cl_s_1, cl_s_2, cl_ar_1, cl_ar_2, cl_w_1, cl_w_2, c_eqSize, r.1, nI_leI, Nat.le_refl]
    exact hQ τ r ht (cl_ke_rf _ _) hm h6
  | succ m ihm =>
    intro v E t τ hv hv1 hc hm h6 ho z0 r ht hQ
    have hn := hc.1.2.2
    have hlt : ¬ n ≤ v := by omega
    have g1 : τ.1 39 6 = 0 ∧ τ.1 j 3 = 0 := ⟨h6, by rw [r.2.1, z0]; rfl⟩
    have i10 : ¬ (1 : Int32) = 0 := by decide
    have hz3 := cl_E_z r
    have st := cl_E_st (a := 2 * v) r ho.2.2 z0 (by omega)
    have lb : E.1 (2 * v) < 240 := by have := (ho.2.2 (2 * v) (by omega)).1; omega
    have c1 : nI (E.1 (2 * v)) ≤ 1 ↔ E.1 (2 * v) ≤ 1 := nI_leI (b := 1) (by omega) (by decide)
    simp (disch := first | exact ev_ok_i _ | exact ev_ok_r _ | exact ev_ok_n | omega | assumption | decide) only [e_Sa_pass_12, e_Sa_pass_13, e_Sa_pass_14, e_Sa_pass_17, e_Sa_pass_20, e_Sa_pass_21, e_Sa_pass_22, e_Sa_pass_25, e_Sa_pass_28, e_Sa_pass_29, e_Sa_pass_30, e_Sa_pass_31, e_Sa_pass_32, e_Sa_pass_35, e_Sa_pass_36, ev_rm_n, ev_rm_i, ev_rm_r, ev_rm_l, ev_ok_n, ev_ok_i, ev_ok_r, Option.toList_some, Option.toList_none, List.cons_append, List.nil_append, true_and, and_true, true_or, or_true, reduceIte, Nat.reduceEqDiff, if_true, if_false, cg_Dp_rc, cg_Dp_text, cg_Dp_circuit, cg_Dp_reader, cg_Dp_current, cg_Dp_working, cg_Dp_saturator, cg_Dp_table, cg_Te_rc, cg_Te_bytes, cg_Te_length, cp_Te_length, cg_Ci_rc, cg_Ci_kinds, cg_Ci_firsts, cg_Ci_seconds, cg_Ci_inputVariables, cg_Ci_names, cg_Ci_nameLengths, cg_Ci_size, cp_Ci_size, cg_Ci_inputs, cp_Ci_inputs, cg_Re_rc, cg_Re_text, cg_Re_circuit, cg_Re_token, cp_Re_token, cg_Re_start, cp_Re_start, cg_Re_next, cp_Re_next, cg_Re_open, cp_Re_open, cg_Re_fault, cp_Re_fault, cg_Re_faultPlace, cp_Re_faultPlace, cg_Sa_rc, cg_Sa_circuit, cg_Sa_before, cg_Sa_trueBranches, cg_Sa_falseBranches, cg_Sa_tallies, cg_Sa_mostSteps, cp_Sa_mostSteps, cg_Sa_spent, cp_Sa_spent, cg_Ta_rc, cg_Ta_circuit, cg_Ta_words, cr_kinds, cw_kinds, cr_firsts, cw_firsts, cr_seconds, cw_seconds, cr_inputVariables, cw_inputVariables, cr_nameLengths, cw_nameLengths, cr_tallies, cw_tallies, cr_bytes, cw_bytes, cr_words, cw_words, cl_tallies, cr_names, cr_trueB, cr_falseB, cr_name, cw_name, cq_rc, cq_st, cq_size, cq_classes, cq_contradiction, cqp_size, cqp_classes, cqp_contradiction, cq_rd, cq_wr, cq_copy, cl_s_1, cl_s_2, cl_ar_1, cl_ar_2, cl_w_1, cl_w_2, c_eqSize, r.1, nI_leI, hlt, c_goesOn, g1, and_self, i10, nL_2, c_standing, st, c1]
    rw [cs_sp_ps] at hQ
    have fr := cs_fr (v := v) ho.2.2 hc.1.2.1
    by_cases c : sp_fr E v
    · have c2 : ¬ E.1 (2 * v) ≤ 1 := by have := fr.mp c; omega
      rw [if_pos c] at hQ
      simp (disch := first | exact ev_ok_i _ | exact ev_ok_r _ | exact ev_ok_n | omega | assumption | decide) only [c2, if_false, e_Sa_pass_39, e_Sa_pass_40, e_Sa_pass_41, e_Sa_pass_42, e_Sa_pass_43, ev_rm_n, ev_rm_i, ev_rm_r, ev_rm_l, ev_ok_n, ev_ok_i, ev_ok_r, Option.toList_some, Option.toList_none, List.cons_append, List.nil_append, true_and, and_true, true_or, or_true, reduceIte, Nat.reduceEqDiff, if_true, if_false, cg_Dp_rc, cg_Dp_text, cg_Dp_circuit, cg_Dp_reader, cg_Dp_current, cg_Dp_working, cg_Dp_saturator, cg_Dp_table, cg_Te_rc, cg_Te_bytes, cg_Te_length, cp_Te_length, cg_Ci_rc, cg_Ci_kinds, cg_Ci_firsts, cg_Ci_seconds, cg_Ci_inputVariables, cg_Ci_names, cg_Ci_nameLengths, cg_Ci_size, cp_Ci_size, cg_Ci_inputs, cp_Ci_inputs, cg_Re_rc, cg_Re_text, cg_Re_circuit, cg_Re_token, cp_Re_token, cg_Re_start, cp_Re_start, cg_Re_next, cp_Re_next, cg_Re_open, cp_Re_open, cg_Re_fault, cp_Re_fault, cg_Re_faultPlace, cp_Re_faultPlace, cg_Sa_rc, cg_Sa_circuit, cg_Sa_before, cg_Sa_trueBranches, cg_Sa_falseBranches, cg_Sa_tallies, cg_Sa_mostSteps, cp_Sa_mostSteps, cg_Sa_spent, cp_Sa_spent, cg_Ta_rc, cg_Ta_circuit, cg_Ta_words, cr_kinds, cw_kinds, cr_firsts, cw_firsts, cr_seconds, cw_seconds, cr_inputVariables, cw_inputVariables, cr_nameLengths, cw_nameLengths, cr_tallies, cw_tallies, cr_bytes, cw_bytes, cr_words, cw_words, cl_tallies, cr_names, cr_trueB, cr_falseB, cr_name, cw_name, cq_rc, cq_st, cq_size, cq_classes, cq_contradiction, cqp_size, cqp_classes, cqp_contradiction, cq_rd, cq_wr, cq_copy, cl_s_1, cl_s_2, cl_ar_1, cl_ar_2, cl_w_1, cl_w_2]
      refine c_split ih hk hj h40 hjk hw hc hm h6 ho z0 (by omega) c r ht (fun τ2 q1 q2 q3 q4 q5 => ?_)
      have ok2 := sp_cs_ok (k := k) hw hc.1.2.1 (by omega : v < n) ho
      generalize cs_sp (sp_sk n kd o1 o2 ms k) E v t = z at q1 q2 q5 hQ ok2
      simp (disch := first | exact ev_ok_i _ | exact ev_ok_r _ | exact ev_ok_n | omega | assumption | decide) only [e_Sa_pass_46, e_Sa_pass_49, ev_rm_n, ev_rm_i, ev_rm_r, ev_rm_l, ev_ok_n, ev_ok_i, ev_ok_r, Option.toList_some, Option.toList_none, List.cons_append, List.nil_append, true_and, and_true, true_or, or_true, reduceIte, Nat.reduceEqDiff, if_true, if_false, nI_1]
      by_cases s : z.1 = true
      · rw [if_pos (Or.inl s)] at hQ
        exact c_pass_end hj hn (by omega) q1.1 (cl_E_z q1) (Or.inl (by rw [q5, s]; decide)) (hQ τ2 q1 q2 q3 q4 q5)
      · have s' : z.1 = false := by simpa using s
        by_cases s2 : z.2.1.2 = true
        · rw [if_pos (Or.inr ⟨s2, s'⟩)] at hQ
          exact c_pass_end hj hn (by omega) q1.1 (cl_E_z q1) (Or.inr (by rw [q1.2.1, s2]; decide)) (hQ τ2 q1 q2 q3 q4 q5)
        · rw [if_neg (fun y => y.elim s (fun y => s2 y.1))] at hQ
          exact ihm (v + 1) z.2.1 z.2.2 τ2 (by omega) (by omega) (cl_ci_JK hj q3 hc) q4 (by rw [q5, s']; rfl) ok2 (by simpa using s2) q1 q2 (fun τ3 p1 p2 p3 p4 p5 => hQ τ3 p1 p2 (cl_ke_tr q3 p3) p4 p5)
    · have c2 : E.1 (2 * v) ≤ 1 := by
        by_cases y : E.1 (2 * v) ≤ 1
        · exact y
        · exact absurd (fr.mpr (by omega)) c
      rw [if_neg c] at hQ
      simp (disch := first | exact ev_ok_i _ | exact ev_ok_r _ | exact ev_ok_n | omega | assumption | decide) only [c2, if_true, e_Sa_pass_46, e_Sa_pass_49, ev_rm_n, ev_rm_i, ev_rm_r, ev_rm_l, ev_ok_n, ev_ok_i, ev_ok_r, Option.toList_some, Option.toList_none, List.cons_append, List.nil_append, true_and, and_true, true_or, or_true, reduceIte, Nat.reduceEqDiff, if_true, if_false, nI_1]
      exact ihm (v + 1) E t τ (by omega) (by omega) hc hm h6 ho z0 r ht hQ
theorem c_passK {k : Nat} {E : sp_E} {t : sp_T} (ih : cl_SK X d B g n ms kd o1 o2 k) (hk : k < 4) (hj : j ∈ cl_eo) (h40 : ¬ j = 40) (hjk : j < 45 ∨ 45 + 4 * (k + 1) ≤ j) (hw : sp_wf n kd o1 o2) (hc : cl_ci τ n kd o1 o2) (hm : τ.1 39 5 = nI ms) (h6 : τ.1 39 6 = 0) (ho : sp_ok n ms E t) (z0 : E.2 = false) (r : cl_E τ j n E) (ht : cl_tt τ t) (hQ : ∀ τ2, cl_E τ2 j n (sp_ps (sp_sk n kd o1 o2 ms k) (n - 1) 1 E (t.1, t.2.1, t.2.2.1 + 1, t.2.2.2)).2.1 → cl_tt τ2 (sp_ps (sp_sk n kd o1 o2 ms k) (n - 1) 1 E (t.1, t.2.1, t.2.2.1 + 1, t.2.2.2)).2.2 → cl_ke (cl_JK (k + 1) j) τ τ2 → τ2.1 39 5 = nI ms → τ2.1 39 6 = sp_zb (sp_ps (sp_sk n kd o1 o2 ms k) (n - 1) 1 E (t.1, t.2.1, t.2.2.1 + 1, t.2.2.2)).1 → Q none (cl_put B τ2 g)) : ev_C X (d + 6 + 4 * k + 3) m_Sa_pass [.ref (B + 39), .ref (B + j), .int (nI (k + 1))] (cl_put B τ g) Q := by
  show ev_R X (d + 6 + 4 * k + 3) m_Sa_pass 0 [some (.ref (B + 39)), some (.ref (B + j)), some (.int (nI (k + 1))), none] [] (cl_put B τ g) Q
  have h2c : (2 : Int32).toNatClampNeg = 2 := rfl
  have h2o : xo_out 2 4 = false := xo_in (v := 2) (by decide) (by decide)
  simp (disch := first | exact ev_ok_i _ | exact ev_ok_r _ | exact ev_ok_n | omega | assumption | decide) only [e_Sa_pass_0, e_Sa_pass_1, e_Sa_pass_4, e_Sa_pass_5, e_Sa_pass_6, e_Sa_pass_7, e_Sa_pass_8, e_Sa_pass_9, e_Sa_pass_10, e_Sa_pass_11, ev_rm_n, ev_rm_i, ev_rm_r, ev_rm_l, ev_ok_n, ev_ok_i, ev_ok_r, Option.toList_some, Option.toList_none, List.cons_append, List.nil_append, true_and, and_true, true_or, or_true, reduceIte, Nat.reduceEqDiff, if_true, if_false, cg_Dp_rc, cg_Dp_text, cg_Dp_circuit, cg_Dp_reader, cg_Dp_current, cg_Dp_working, cg_Dp_saturator, cg_Dp_table, cg_Te_rc, cg_Te_bytes, cg_Te_length, cp_Te_length, cg_Ci_rc, cg_Ci_kinds, cg_Ci_firsts, cg_Ci_seconds, cg_Ci_inputVariables, cg_Ci_names, cg_Ci_nameLengths, cg_Ci_size, cp_Ci_size, cg_Ci_inputs, cp_Ci_inputs, cg_Re_rc, cg_Re_text, cg_Re_circuit, cg_Re_token, cp_Re_token, cg_Re_start, cp_Re_start, cg_Re_next, cp_Re_next, cg_Re_open, cp_Re_open, cg_Re_fault, cp_Re_fault, cg_Re_faultPlace, cp_Re_faultPlace, cg_Sa_rc, cg_Sa_circuit, cg_Sa_before, cg_Sa_trueBranches, cg_Sa_falseBranches, cg_Sa_tallies, cg_Sa_mostSteps, cp_Sa_mostSteps, cg_Sa_spent, cp_Sa_spent, cg_Ta_rc, cg_Ta_circuit, cg_Ta_words, cr_kinds, cw_kinds, cr_firsts, cw_firsts, cr_seconds, cw_seconds, cr_inputVariables, cw_inputVariables, cr_nameLengths, cw_nameLengths, cr_tallies, cw_tallies, cr_bytes, cw_bytes, cr_words, cw_words, cl_tallies, cr_names, cr_trueB, cr_falseB, cr_name, cw_name, cq_rc, cq_st, cq_size, cq_classes, cq_contradiction, cqp_size, cqp_classes, cqp_contradiction, cq_rd, cq_wr, cq_copy, cl_s_1, cl_s_2, cl_ar_1, cl_ar_2, cl_w_1, cl_w_2, h2c, h2o, ht.2.2.1, nI_1]
  have k4 : cl_ke (fun i => i = 44) τ (cl_s τ 44 2 (nI (t.2.2.1 + 1))) := cl_ke_s τ 2 _ rfl
  have n44 := cl_J_44 hj
  have e1 : (1 : Int32) = nI 1 := rfl
  have t1 : cl_tt (cl_s τ 44 2 (nI (t.2.2.1 + 1))) (t.1, t.2.1, t.2.2.1 + 1, t.2.2.2) := by
    unfold cl_tt
    simp only [cl_s_1, if_true, upd_a, if_neg (show ¬ (0 : Nat) = 2 by decide), if_neg (show ¬ (1 : Nat) = 2 by decide), if_neg (show ¬ (3 : Nat) = 2 by decide)]
    exact ⟨ht.1, ht.2.1, trivial, ht.2.2.2⟩
  rw [e1]
  refine c_pass_loop ih hk hj h40 hjk hw (n - 1) 1 E (t.1, t.2.1, t.2.2.1 + 1, t.2.2.2) _ (by have := hc.1.2.1; omega) (Nat.le_refl 1) (cl_ci_ke k4 (by decide) (by decide) (by decide) (by decide) hc) (by rw [k4.1 39 (by decide)]; exact hm) (by rw [k4.1 39 (by decide)]; exact h6) ho z0 (cl_E_ke k4 (fun z => n44 (Or.inl z.symm)) (fun z => n44 (Or.inr z.symm)) r) t1 (fun τ2 p1 p2 p3 p4 p5 => hQ τ2 p1 p2 (cl_ke_tr (cl_ke_mo k4 (fun i z => Or.inl (Or.inr (Or.inr (Or.inr (Or.inr (Or.inl z))))))) p3) p4 p5)
theorem c_deepen_end {f : Int32} {i e : Nat} {dp : Value} {l5 : Option Value} (hj : j ∈ cl_eo) (hz : τ.1 j 3 = 0 ∨ τ.1 j 3 = 1) (h : f = 0 ∨ ¬ τ.1 39 6 = 0 ∨ ¬ τ.1 j 3 = 0) (hi : i < 2 ^ 31) (hQ : Q none (cl_put B τ g)) : ev_R X (e + 2) m_Sa_deepen 21 [some (.ref (B + 39)), some (.ref (B + j)), some dp, some (.int f), some (.int (nI i)), l5] [] (cl_put B τ g) Q := by
  simp (disch := first | exact ev_ok_i _ | exact ev_ok_r _ | exact ev_ok_n | omega | assumption | decide) only [e_Sa_deepen_21, e_Sa_deepen_23, e_Sa_deepen_26, e_Sa_deepen_29, e_Sa_deepen_30, e_Sa_deepen_33, e_Sa_deepen_34, e_Sa_deepen_35, e_Sa_deepen_38, e_Sa_deepen_91, ev_rm_n, ev_rm_i, ev_rm_r, ev_rm_l, ev_ok_n, ev_ok_i, ev_ok_r, Option.toList_some, Option.toList_none, List.cons_append, List.nil_append, true_and, and_true, true_or, or_true, reduceIte, Nat.reduceEqDiff, if_true, if_false, cg_Dp_rc, cg_Dp_text, cg_Dp_circuit, cg_Dp_reader, cg_Dp_current, cg_Dp_working, cg_Dp_saturator, cg_Dp_table, cg_Te_rc, cg_Te_bytes, cg_Te_length, cp_Te_length, cg_Ci_rc, cg_Ci_kinds, cg_Ci_firsts, cg_Ci_seconds, cg_Ci_inputVariables, cg_Ci_names, cg_Ci_nameLengths, cg_Ci_size, cp_Ci_size, cg_Ci_inputs, cp_Ci_inputs, cg_Re_rc, cg_Re_text, cg_Re_circuit, cg_Re_token, cp_Re_token, cg_Re_start, cp_Re_start, cg_Re_next, cp_Re_next, cg_Re_open, cp_Re_open, cg_Re_fault, cp_Re_fault, cg_Re_faultPlace, cp_Re_faultPlace, cg_Sa_rc, cg_Sa_circuit, cg_Sa_before, cg_Sa_trueBranches, cg_Sa_falseBranches, cg_Sa_tallies, cg_Sa_mostSteps, cp_Sa_mostSteps, cg_Sa_spent, cp_Sa_spent, cg_Ta_rc, cg_Ta_circuit, cg_Ta_words, cr_kinds, cw_kinds, cr_firsts, cw_firsts, cr_seconds, cw_seconds, cr_inputVariables, cw_inputVariables, cr_nameLengths, cw_nameLengths, cr_tallies, cw_tallies, cr_bytes, cw_bytes, cr_words, cw_words, cl_tallies, cr_names, cr_trueB, cr_falseB, cr_name, cw_name, cq_rc, cq_st, cq_size, cq_classes, cq_contradiction, cqp_size, cqp_classes, cqp_contradiction, cq_rd, cq_wr, cq_copy, cl_s_1, cl_s_2, cl_ar_1, cl_ar_2, cl_w_1, cl_w_2, c_goesOn]
  by_cases c : (240 : Int32) ≤ nI i
  · simp only [c, if_true]; exact hQ
  · rcases h with h | h
    · simp only [h, c, if_true, if_false]; exact hQ
    · have h2 : ¬ (τ.1 39 6 = 0 ∧ τ.1 j 3 = 0) := fun z => h.elim (fun y => y z.1) (fun y => y z.2)
      simp only [h2, c, if_true, if_false, ite_self]; exact hQ
theorem c_deepen_loop {k : Nat} (ih : cl_SK X d B g n ms kd o1 o2 k) (hk : k < 4) (hj : j ∈ cl_eo) (h40 : ¬ j = 40) (hjk : j < 45 ∨ 45 + 4 * (k + 1) ≤ j) (hw : sp_wf n kd o1 o2) (hms : ms < 2 ^ 31) : ∀ (q : Nat) (E : sp_E) (t : sp_T) (τ : cl_S) (i : Nat) (l5 : Option Value), sp_cn n E < q → i + sp_cn n E ≤ 240 → cl_ci τ n kd o1 o2 → τ.1 39 5 = nI ms → τ.1 39 6 = 0 → sp_ok n ms E t → E.2 = false → cl_E τ j n E → cl_tt τ t → (∀ τ2, cl_E τ2 j n (sp_pp n (sp_st n kd o1 o2 ms) (sp_sk n kd o1 o2 ms k) q E t).2.1 → cl_tt τ2 (sp_pp n (sp_st n kd o1 o2 ms) (sp_sk n kd o1 o2 ms k) q E t).2.2 → cl_ke (cl_JK (k + 1) j) τ τ2 → τ2.1 39 5 = nI ms → τ2.1 39 6 = sp_zb (sp_pp n (sp_st n kd o1 o2 ms) (sp_sk n kd o1 o2 ms k) q E t).1 → Q none (cl_put B τ2 g)) → ev_R X (d + 6 + 4 * k + 4) m_Sa_deepen 21 [some (.ref (B + 39)), some (.ref (B + j)), some (.int (nI (k + 1))), some (.int 1), some (.int (nI i)), l5] [] (cl_put B τ g) Q := by
  intro q
  induction q with
  | zero => intro E t τ i l5 h; omega
  | succ q ihq =>
    intro E t τ i l5 hq hi hc hm h6 ho z0 r ht hQ
    have hn := hc.1.2.2
    have h0 := hc.1.2.1
    have hcn := sp_cn_pos ho.2.2 h0
    have c1 : ¬ (240 : Int32) ≤ nI i := nI_ge (b := 240) (by omega) (by decide)
    have g1 : τ.1 39 6 = 0 ∧ τ.1 j 3 = 0 := ⟨h6, by rw [r.2.1, z0]; rfl⟩
    have i10 : ¬ (1 : Int32) = 0 := by decide
    have hcl := (r.2.2 z0).1
    have hz3 := cl_E_z r
    have okp := sp_ps_gd (ms := ms) (sp_sk_gd hw h0 k) h0 (n - 1) 1 E (t.1, t.2.1, t.2.2.1 + 1, t.2.2.2) (by omega) ho
    unfold sp_pp at hQ
    dsimp only at hQ
    simp (disch := first | exact ev_ok_i _ | exact ev_ok_r _ | exact ev_ok_n | omega | assumption | decide) only [e_Sa_deepen_21, e_Sa_deepen_23, e_Sa_deepen_26, e_Sa_deepen_29, e_Sa_deepen_30, e_Sa_deepen_33, e_Sa_deepen_34, e_Sa_deepen_35, e_Sa_deepen_38, e_Sa_deepen_41, e_Sa_deepen_42, e_Sa_deepen_45, e_Sa_deepen_47, e_Sa_deepen_48, e_Sa_deepen_49, e_Sa_deepen_50, ev_rm_n, ev_rm_i, ev_rm_r, ev_rm_l, ev_ok_n, ev_ok_i, ev_ok_r, Option.toList_some, Option.toList_none, List.cons_append, List.nil_append, true_and, and_true, true_or, or_true, reduceIte, Nat.reduceEqDiff, if_true, if_false, cg_Dp_rc, cg_Dp_text, cg_Dp_circuit, cg_Dp_reader, cg_Dp_current, cg_Dp_working, cg_Dp_saturator, cg_Dp_table, cg_Te_rc, cg_Te_bytes, cg_Te_length, cp_Te_length, cg_Ci_rc, cg_Ci_kinds, cg_Ci_firsts, cg_Ci_seconds, cg_Ci_inputVariables, cg_Ci_names, cg_Ci_nameLengths, cg_Ci_size, cp_Ci_size, cg_Ci_inputs, cp_Ci_inputs, cg_Re_rc, cg_Re_text, cg_Re_circuit, cg_Re_token, cp_Re_token, cg_Re_start, cp_Re_start, cg_Re_next, cp_Re_next, cg_Re_open, cp_Re_open, cg_Re_fault, cp_Re_fault, cg_Re_faultPlace, cp_Re_faultPlace, cg_Sa_rc, cg_Sa_circuit, cg_Sa_before, cg_Sa_trueBranches, cg_Sa_falseBranches, cg_Sa_tallies, cg_Sa_mostSteps, cp_Sa_mostSteps, cg_Sa_spent, cp_Sa_spent, cg_Ta_rc, cg_Ta_circuit, cg_Ta_words, cr_kinds, cw_kinds, cr_firsts, cw_firsts, cr_seconds, cw_seconds, cr_inputVariables, cw_inputVariables, cr_nameLengths, cw_nameLengths, cr_tallies, cw_tallies, cr_bytes, cw_bytes, cr_words, cw_words, cl_tallies, cr_names, cr_trueB, cr_falseB, cr_name, cw_name, cq_rc, cq_st, cq_size, cq_classes, cq_contradiction, cqp_size, cqp_classes, cqp_contradiction, cq_rd, cq_wr, cq_copy, cl_s_1, cl_s_2, cl_ar_1, cl_ar_2, cl_w_1, cl_w_2, c1, i10, c_goesOn, g1, and_self, c_eqClasses, hcl]
    refine c_passK ih hk hj h40 hjk hw hc hm h6 ho z0 r ht (fun τ2 q1 q2 q3 q4 q5 => ?_)
    generalize sp_ps (sp_sk n kd o1 o2 ms k) (n - 1) 1 E (t.1, t.2.1, t.2.2.1 + 1, t.2.2.2) = z at q1 q2 q5 hQ okp
    simp (disch := first | exact ev_ok_i _ | exact ev_ok_r _ | exact ev_ok_n | omega | assumption | decide) only [e_Sa_deepen_53, e_Sa_deepen_54, e_Sa_deepen_57, e_Sa_deepen_59, ev_rm_n, ev_rm_i, ev_rm_r, ev_rm_l, ev_ok_n, ev_ok_i, ev_ok_r, Option.toList_some, Option.toList_none, List.cons_append, List.nil_append, true_and, and_true, true_or, or_true, reduceIte, Nat.reduceEqDiff, if_true, if_false, cg_Dp_rc, cg_Dp_text, cg_Dp_circuit, cg_Dp_reader, cg_Dp_current, cg_Dp_working, cg_Dp_saturator, cg_Dp_table, cg_Te_rc, cg_Te_bytes, cg_Te_length, cp_Te_length, cg_Ci_rc, cg_Ci_kinds, cg_Ci_firsts, cg_Ci_seconds, cg_Ci_inputVariables, cg_Ci_names, cg_Ci_nameLengths, cg_Ci_size, cp_Ci_size, cg_Ci_inputs, cp_Ci_inputs, cg_Re_rc, cg_Re_text, cg_Re_circuit, cg_Re_token, cp_Re_token, cg_Re_start, cp_Re_start, cg_Re_next, cp_Re_next, cg_Re_open, cp_Re_open, cg_Re_fault, cp_Re_fault, cg_Re_faultPlace, cp_Re_faultPlace, cg_Sa_rc, cg_Sa_circuit, cg_Sa_before, cg_Sa_trueBranches, cg_Sa_falseBranches, cg_Sa_tallies, cg_Sa_mostSteps, cp_Sa_mostSteps, cg_Sa_spent, cp_Sa_spent, cg_Ta_rc, cg_Ta_circuit, cg_Ta_words, cr_kinds, cw_kinds, cr_firsts, cw_firsts, cr_seconds, cw_seconds, cr_inputVariables, cw_inputVariables, cr_nameLengths, cw_nameLengths, cr_tallies, cw_tallies, cr_bytes, cw_bytes, cr_words, cw_words, cl_tallies, cr_names, cr_trueB, cr_falseB, cr_name, cw_name, cq_rc, cq_st, cq_size, cq_classes, cq_contradiction, cqp_size, cqp_classes, cqp_contradiction, cq_rd, cq_wr, cq_copy, cl_s_1, cl_s_2, cl_ar_1, cl_ar_2, cl_w_1, cl_w_2, c_eqClasses]
    have hc2 := cl_ci_JK hj q3 hc
    have hz4 := cl_E_z q1
    by_cases s : z.1 = true ∨ z.2.1.2 = true
    · rw [if_pos s] at hQ
      have hend : ¬ τ2.1 39 6 = 0 ∨ ¬ τ2.1 j 3 = 0 := by
        rcases s with s | s
        · left; rw [q5, s]; decide
        · right; rw [q1.2.1, s]; decide
      have hg : ¬ (τ2.1 39 6 = 0 ∧ τ2.1 j 3 = 0) := fun y => hend.elim (fun w => w y.1) (fun w => w y.2)
      by_cases y : nI (sp_cn n E) ≤ τ2.1 j 2
      · simp (disch := first | exact ev_ok_i _ | exact ev_ok_r _ | exact ev_ok_n | omega | assumption | decide) only [y, if_true, e_Sa_deepen_66, e_Sa_deepen_67, e_Sa_deepen_68, e_Sa_deepen_69, e_Sa_deepen_85, e_Sa_deepen_88, ev_rm_n, ev_rm_i, ev_rm_r, ev_rm_l, ev_ok_n, ev_ok_i, ev_ok_r, Option.toList_some, Option.toList_none, List.cons_append, List.nil_append, true_and, and_true, true_or, or_true, reduceIte, Nat.reduceEqDiff, if_true, if_false, nI_1]
        exact c_deepen_end hj (cl_E_z q1) (Or.inr hend) (by omega) (hQ τ2 q1 q2 q3 q4 q5)
      · simp (disch := first | exact ev_ok_i _ | exact ev_ok_r _ | exact ev_ok_n | omega | assumption | decide) only [y, if_false, i10, e_Sa_deepen_62, e_Sa_deepen_63, e_Sa_deepen_67, e_Sa_deepen_68, e_Sa_deepen_69, e_Sa_deepen_72, e_Sa_deepen_73, e_Sa_deepen_74, e_Sa_deepen_77, e_Sa_deepen_85, e_Sa_deepen_88, ev_rm_n, ev_rm_i, ev_rm_r, ev_rm_l, ev_ok_n, ev_ok_i, ev_ok_r, Option.toList_some, Option.toList_none, List.cons_append, List.nil_append, true_and, and_true, true_or, or_true, reduceIte, Nat.reduceEqDiff, if_true, if_false, cg_Dp_rc, cg_Dp_text, cg_Dp_circuit, cg_Dp_reader, cg_Dp_current, cg_Dp_working, cg_Dp_saturator, cg_Dp_table, cg_Te_rc, cg_Te_bytes, cg_Te_length, cp_Te_length, cg_Ci_rc, cg_Ci_kinds, cg_Ci_firsts, cg_Ci_seconds, cg_Ci_inputVariables, cg_Ci_names, cg_Ci_nameLengths, cg_Ci_size, cp_Ci_size, cg_Ci_inputs, cp_Ci_inputs, cg_Re_rc, cg_Re_text, cg_Re_circuit, cg_Re_token, cp_Re_token, cg_Re_start, cp_Re_start, cg_Re_next, cp_Re_next, cg_Re_open, cp_Re_open, cg_Re_fault, cp_Re_fault, cg_Re_faultPlace, cp_Re_faultPlace, cg_Sa_rc, cg_Sa_circuit, cg_Sa_before, cg_Sa_trueBranches, cg_Sa_falseBranches, cg_Sa_tallies, cg_Sa_mostSteps, cp_Sa_mostSteps, cg_Sa_spent, cp_Sa_spent, cg_Ta_rc, cg_Ta_circuit, cg_Ta_words, cr_kinds, cw_kinds, cr_firsts, cw_firsts, cr_seconds, cw_seconds, cr_inputVariables, cw_inputVariables, cr_nameLengths, cw_nameLengths, cr_tallies, cw_tallies, cr_bytes, cw_bytes, cr_words, cw_words, cl_tallies, cr_names, cr_trueB, cr_falseB, cr_name, cw_name, cq_rc, cq_st, cq_size, cq_classes, cq_contradiction, cqp_size, cqp_classes, cqp_contradiction, cq_rd, cq_wr, cq_copy, cl_s_1, cl_s_2, cl_ar_1, cl_ar_2, cl_w_1, cl_w_2, c_goesOn, hg, nI_1]
        exact c_deepen_end hj (cl_E_z q1) (Or.inr hend) (by omega) (hQ τ2 q1 q2 q3 q4 q5)
    · rw [if_neg s] at hQ
      have s1 : z.1 = false := by
        cases hh : z.1 with
        | false => rfl
        | true => exact absurd (Or.inl hh) s
      have s2 : z.2.1.2 = false := by
        cases hh : z.2.1.2 with
        | false => rfl
        | true => exact absurd (Or.inr hh) s
      have hcz := (q1.2.2 s2).1
      have b1 := sp_cn_le n E
      have b2 := sp_cn_le n z.2.1
      by_cases y : sp_cn n z.2.1 < sp_cn n E
      · rw [if_pos y] at hQ
        have y' : ¬ sp_cn n E ≤ sp_cn n z.2.1 := by omega
        have g2 : τ2.1 39 6 = 0 ∧ τ2.1 j 3 = 0 := ⟨by rw [q5, s1]; rfl, by rw [q1.2.1, s2]; rfl⟩
        simp (disch := first | exact ev_ok_i _ | exact ev_ok_r _ | exact ev_ok_n | omega | assumption | decide) only [hcz, nI_leI, y', if_false, i10, e_Sa_deepen_62, e_Sa_deepen_63, e_Sa_deepen_67, e_Sa_deepen_68, e_Sa_deepen_69, e_Sa_deepen_72, e_Sa_deepen_73, e_Sa_deepen_74, e_Sa_deepen_77, e_Sa_deepen_80, e_Sa_deepen_81, e_Sa_deepen_82, ev_rm_n, ev_rm_i, ev_rm_r, ev_rm_l, ev_ok_n, ev_ok_i, ev_ok_r, Option.toList_some, Option.toList_none, List.cons_append, List.nil_append, true_and, and_true, true_or, or_true, reduceIte, Nat.reduceEqDiff, if_true, if_false, cg_Dp_rc, cg_Dp_text, cg_Dp_circuit, cg_Dp_reader, cg_Dp_current, cg_Dp_working, cg_Dp_saturator, cg_Dp_table, cg_Te_rc, cg_Te_bytes, cg_Te_length, cp_Te_length, cg_Ci_rc, cg_Ci_kinds, cg_Ci_firsts, cg_Ci_seconds, cg_Ci_inputVariables, cg_Ci_names, cg_Ci_nameLengths, cg_Ci_size, cp_Ci_size, cg_Ci_inputs, cp_Ci_inputs, cg_Re_rc, cg_Re_text, cg_Re_circuit, cg_Re_token, cp_Re_token, cg_Re_start, cp_Re_start, cg_Re_next, cp_Re_next, cg_Re_open, cp_Re_open, cg_Re_fault, cp_Re_fault, cg_Re_faultPlace, cp_Re_faultPlace, cg_Sa_rc, cg_Sa_circuit, cg_Sa_before, cg_Sa_trueBranches, cg_Sa_falseBranches, cg_Sa_tallies, cg_Sa_mostSteps, cp_Sa_mostSteps, cg_Sa_spent, cp_Sa_spent, cg_Ta_rc, cg_Ta_circuit, cg_Ta_words, cr_kinds, cw_kinds, cr_firsts, cw_firsts, cr_seconds, cw_seconds, cr_inputVariables, cw_inputVariables, cr_nameLengths, cw_nameLengths, cr_tallies, cw_tallies, cr_bytes, cw_bytes, cr_words, cw_words, cl_tallies, cr_names, cr_trueB, cr_falseB, cr_name, cw_name, cq_rc, cq_st, cq_size, cq_classes, cq_contradiction, cqp_size, cqp_classes, cqp_contradiction, cq_rd, cq_wr, cq_copy, cl_s_1, cl_s_2, cl_ar_1, cl_ar_2, cl_w_1, cl_w_2, c_goesOn, g2, and_self]
        rw [show d + 6 + 4 * k + 3 = d + 4 + 4 * k + 5 by omega]
        have oky := sp_st_gd (ms := ms) hw h0 z.2.1 z.2.2 okp
        have cny := sp_st_cn (ms := ms) hw h0 z.2.2 okp.2.2
        refine c_settle hj h40 hw hc2 q4 hms g2.1 okp q1 q2 (fun τ3 p1 p2 p3 p4 p5 => ?_)
        rw [show d + 4 + 4 * k + 5 + 1 = d + 6 + 4 * k + 4 by omega]
        simp (disch := first | exact ev_ok_i _ | exact ev_ok_r _ | exact ev_ok_n | omega | assumption | decide) only [e_Sa_deepen_85, e_Sa_deepen_88, ev_rm_n, ev_rm_i, ev_rm_r, ev_rm_l, ev_ok_n, ev_ok_i, ev_ok_r, Option.toList_some, Option.toList_none, List.cons_append, List.nil_append, true_and, and_true, true_or, or_true, reduceIte, Nat.reduceEqDiff, if_true, if_false, nI_1]
        generalize sp_st n kd o1 o2 ms z.2.1 z.2.2 = w at p1 p2 p5 hQ oky cny
        have ka : cl_ke (cl_JK (k + 1) j) τ τ3 := cl_ke_tr q3 (cl_ke_mo p3 (fun i z => Or.inl z))
        by_cases u : w.1 = true ∨ w.2.1.2 = true
        · rw [if_pos u] at hQ
          have hend : ¬ τ3.1 39 6 = 0 ∨ ¬ τ3.1 j 3 = 0 := by
            rcases u with u | u
            · left; rw [p5, u]; decide
            · right; rw [p1.2.1, u]; decide
          exact c_deepen_end hj (cl_E_z p1) (Or.inr hend) (by omega) (hQ τ3 p1 p2 ka p4 p5)
        · rw [if_neg u] at hQ
          have u1 : w.1 = false := by
            cases hh : w.1 with
            | false => rfl
            | true => exact absurd (Or.inl hh) u
          have u2 : w.2.1.2 = false := by
            cases hh : w.2.1.2 with
            | false => rfl
            | true => exact absurd (Or.inr hh) u
          exact ihq w.2.1 w.2.2 τ3 (i + 1) _ (by omega) (by omega) (cl_ci_ke p3 (cl_J0_lo hj (by decide)) (cl_J0_lo hj (by decide)) (cl_J0_lo hj (by decide)) (cl_J0_lo hj (by decide)) hc2) p4 (by rw [p5, u1]; rfl) oky u2 p1 p2 (fun τ4 x1 x2 x3 x4 x5 => hQ τ4 x1 x2 (cl_ke_tr ka x3) x4 x5)
      · rw [if_neg y] at hQ
        have y' : sp_cn n E ≤ sp_cn n z.2.1 := by omega
        simp (disch := first | exact ev_ok_i _ | exact ev_ok_r _ | exact ev_ok_n | omega | assumption | decide) only [hcz, nI_leI, y', if_true, e_Sa_deepen_66, e_Sa_deepen_67, e_Sa_deepen_68, e_Sa_deepen_69, e_Sa_deepen_85, e_Sa_deepen_88, ev_rm_n, ev_rm_i, ev_rm_r, ev_rm_l, ev_ok_n, ev_ok_i, ev_ok_r, Option.toList_some, Option.toList_none, List.cons_append, List.nil_append, true_and, and_true, true_or, or_true, reduceIte, Nat.reduceEqDiff, if_true, if_false, nI_1]
        exact c_deepen_end hj (cl_E_z q1) (Or.inl rfl) (by omega) (hQ τ2 q1 q2 q3 q4 q5)
theorem cl_SK_all (hw : sp_wf n kd o1 o2) (hms : ms < 2 ^ 31) : ∀ k, k ≤ 4 → cl_SK X d B g n ms kd o1 o2 k := by
  intro k
  induction k with
  | zero =>
    intro _ j E t τ Q hj h40 hjk hc hm h6 ho r ht hQ
    show ev_R X (d + 6) m_Sa_deepen 0 [some (.ref (B + 39)), some (.ref (B + j)), some (.int (nI 0)), none, none, none] [] (cl_put B τ g) Q
    simp (disch := first | exact ev_ok_i _ | exact ev_ok_r _ | exact ev_ok_n | omega | assumption | decide) only [e_Sa_deepen_0, e_Sa_deepen_1, e_Sa_deepen_2, ev_rm_n, ev_rm_i, ev_rm_r, ev_rm_l, ev_ok_n, ev_ok_i, ev_ok_r, Option.toList_some, Option.toList_none, List.cons_append, List.nil_append, true_and, and_true, true_or, or_true, reduceIte, Nat.reduceEqDiff, if_true, if_false, cg_Dp_rc, cg_Dp_text, cg_Dp_circuit, cg_Dp_reader, cg_Dp_current, cg_Dp_working, cg_Dp_saturator, cg_Dp_table, cg_Te_rc, cg_Te_bytes, cg_Te_length, cp_Te_length, cg_Ci_rc, cg_Ci_kinds, cg_Ci_firsts, cg_Ci_seconds, cg_Ci_inputVariables, cg_Ci_names, cg_Ci_nameLengths, cg_Ci_size, cp_Ci_size, cg_Ci_inputs, cp_Ci_inputs, cg_Re_rc, cg_Re_text, cg_Re_circuit, cg_Re_token, cp_Re_token, cg_Re_start, cp_Re_start, cg_Re_next, cp_Re_next, cg_Re_open, cp_Re_open, cg_Re_fault, cp_Re_fault, cg_Re_faultPlace, cp_Re_faultPlace, cg_Sa_rc, cg_Sa_circuit, cg_Sa_before, cg_Sa_trueBranches, cg_Sa_falseBranches, cg_Sa_tallies, cg_Sa_mostSteps, cp_Sa_mostSteps, cg_Sa_spent, cp_Sa_spent, cg_Ta_rc, cg_Ta_circuit, cg_Ta_words, cr_kinds, cw_kinds, cr_firsts, cw_firsts, cr_seconds, cw_seconds, cr_inputVariables, cw_inputVariables, cr_nameLengths, cw_nameLengths, cr_tallies, cw_tallies, cr_bytes, cw_bytes, cr_words, cw_words, cl_tallies, cr_names, cr_trueB, cr_falseB, cr_name, cw_name, cq_rc, cq_st, cq_size, cq_classes, cq_contradiction, cqp_size, cqp_classes, cqp_contradiction, cq_rd, cq_wr, cq_copy, cl_s_1, cl_s_2, cl_ar_1, cl_ar_2, cl_w_1, cl_w_2]
    refine c_settle hj h40 hw hc hm hms h6 ho r ht (fun τ2 q1 q2 q3 q4 q5 => ?_)
    have l01 : nI 0 < 1 := by decide
    simp (disch := first | exact ev_ok_i _ | exact ev_ok_r _ | exact ev_ok_n | omega | assumption | decide) only [e_Sa_deepen_5, e_Sa_deepen_6, e_Sa_deepen_7, e_Sa_deepen_15, ev_rm_n, ev_rm_i, ev_rm_r, ev_rm_l, ev_ok_n, ev_ok_i, ev_ok_r, Option.toList_some, Option.toList_none, List.cons_append, List.nil_append, true_and, and_true, true_or, or_true, reduceIte, Nat.reduceEqDiff, if_true, if_false, l01]
    exact hQ τ2 q1 q2 (cl_ke_mo q3 (fun i z => Or.inl z)) q4 q5
  | succ k ih =>
    intro hk4 j E t τ Q hj h40 hjk hc hm h6 ho r ht hQ
    have ih := ih (by omega)
    have hn := hc.1.2.2
    have h0 := hc.1.2.1
    rw [show d + 6 + 4 * (k + 1) = d + 6 + 4 * k + 4 by omega]
    show ev_R X (d + 6 + 4 * k + 4) m_Sa_deepen 0 [some (.ref (B + 39)), some (.ref (B + j)), some (.int (nI (k + 1))), none, none, none] [] (cl_put B τ g) Q
    simp (disch := first | exact ev_ok_i _ | exact ev_ok_r _ | exact ev_ok_n | omega | assumption | decide) only [e_Sa_deepen_0, e_Sa_deepen_1, e_Sa_deepen_2, ev_rm_n, ev_rm_i, ev_rm_r, ev_rm_l, ev_ok_n, ev_ok_i, ev_ok_r, Option.toList_some, Option.toList_none, List.cons_append, List.nil_append, true_and, and_true, true_or, or_true, reduceIte, Nat.reduceEqDiff, if_true, if_false, cg_Dp_rc, cg_Dp_text, cg_Dp_circuit, cg_Dp_reader, cg_Dp_current, cg_Dp_working, cg_Dp_saturator, cg_Dp_table, cg_Te_rc, cg_Te_bytes, cg_Te_length, cp_Te_length, cg_Ci_rc, cg_Ci_kinds, cg_Ci_firsts, cg_Ci_seconds, cg_Ci_inputVariables, cg_Ci_names, cg_Ci_nameLengths, cg_Ci_size, cp_Ci_size, cg_Ci_inputs, cp_Ci_inputs, cg_Re_rc, cg_Re_text, cg_Re_circuit, cg_Re_token, cp_Re_token, cg_Re_start, cp_Re_start, cg_Re_next, cp_Re_next, cg_Re_open, cp_Re_open, cg_Re_fault, cp_Re_fault, cg_Re_faultPlace, cp_Re_faultPlace, cg_Sa_rc, cg_Sa_circuit, cg_Sa_before, cg_Sa_trueBranches, cg_Sa_falseBranches, cg_Sa_tallies, cg_Sa_mostSteps, cp_Sa_mostSteps, cg_Sa_spent, cp_Sa_spent, cg_Ta_rc, cg_Ta_circuit, cg_Ta_words, cr_kinds, cw_kinds, cr_firsts, cw_firsts, cr_seconds, cw_seconds, cr_inputVariables, cw_inputVariables, cr_nameLengths, cw_nameLengths, cr_tallies, cw_tallies, cr_bytes, cw_bytes, cr_words, cw_words, cl_tallies, cr_names, cr_trueB, cr_falseB, cr_name, cw_name, cq_rc, cq_st, cq_size, cq_classes, cq_contradiction, cqp_size, cqp_classes, cqp_contradiction, cq_rd, cq_wr, cq_copy, cl_s_1, cl_s_2, cl_ar_1, cl_ar_2, cl_w_1, cl_w_2]
    rw [show d + 6 + 4 * k + 3 = d + 4 + 4 * k + 5 by omega]
    have oky := sp_st_gd (ms := ms) hw h0 E t ho
    have cny := sp_cn_le n (sp_st n kd o1 o2 ms E t).2.1
    refine c_settle hj h40 hw hc hm hms h6 ho r ht (fun τ2 q1 q2 q3 q4 q5 => ?_)
    rw [show d + 4 + 4 * k + 5 + 1 = d + 6 + 4 * k + 4 by omega]
    unfold sp_sk at hQ
    dsimp only at hQ
    generalize sp_st n kd o1 o2 ms E t = w at q1 q2 q5 hQ oky cny
    have c1 : ¬ nI (k + 1) < 1 := nI_nlt (b := 1) (by omega) (by omega)
    have c2 : nI (k + 1) ≤ 4 := nI_le (b := 4) (by omega) (by decide)
    have e0 : (0 : Int32) = nI 0 := rfl
    simp (disch := first | exact ev_ok_i _ | exact ev_ok_r _ | exact ev_ok_n | omega | assumption | decide) only [e_Sa_deepen_5, e_Sa_deepen_6, e_Sa_deepen_7, e_Sa_deepen_10, e_Sa_deepen_11, e_Sa_deepen_12, e_Sa_deepen_15, e_Sa_deepen_16, e_Sa_deepen_17, e_Sa_deepen_18, e_Sa_deepen_19, ev_rm_n, ev_rm_i, ev_rm_r, ev_rm_l, ev_ok_n, ev_ok_i, ev_ok_r, Option.toList_some, Option.toList_none, List.cons_append, List.nil_append, true_and, and_true, true_or, or_true, reduceIte, Nat.reduceEqDiff, if_true, if_false, c1, c2]
    by_cases u : w.1 = true ∨ w.2.1.2 = true
    · rw [if_pos u] at hQ
      have hend : ¬ τ2.1 39 6 = 0 ∨ ¬ τ2.1 j 3 = 0 := by
        rcases u with u | u
        · left; rw [q5, u]; decide
        · right; rw [q1.2.1, u]; decide
      exact c_deepen_end (i := 0) hj (cl_E_z q1) (Or.inr hend) (by decide) (hQ τ2 q1 q2 (cl_ke_mo q3 (fun i z => Or.inl z)) q4 q5)
    · rw [if_neg u] at hQ
      have u1 : w.1 = false := by
        cases hh : w.1 with
        | false => rfl
        | true => exact absurd (Or.inl hh) u
      have u2 : w.2.1.2 = false := by
        cases hh : w.2.1.2 with
        | false => rfl
        | true => exact absurd (Or.inr hh) u
      rw [e0]
      exact c_deepen_loop ih (by omega) hj h40 hjk hw hms (2 * n + 1) w.2.1 w.2.2 τ2 0 none (by omega) (by omega) (cl_ci_ke q3 (cl_J0_lo hj (by decide)) (cl_J0_lo hj (by decide)) (cl_J0_lo hj (by decide)) (cl_J0_lo hj (by decide)) hc) q4 (by rw [q5, u1]; rfl) oky u2 q1 q2 (fun τ3 x1 x2 x3 x4 x5 => hQ τ3 x1 x2 (cl_ke_tr (cl_ke_mo q3 (fun i z => Or.inl z)) x3) x4 x5)
/-- the tallies begin anew -/
theorem c_begin (x : Int32) (hQ : ∀ τ2, cl_tt τ2 (0, 0, 0, 0) → cl_ke (fun i => i = 44 ∨ i = 39) τ τ2 → τ2.1 39 5 = x → τ2.1 39 6 = 0 → Q none (cl_put B τ2 g)) : ev_C X d m_Sa_begin [.ref (B + 39), .int x] (cl_put B τ g) Q := by
  show ev_R X d m_Sa_begin 0 [some (.ref (B + 39)), some (.int x), none] [] (cl_put B τ g) Q
  have it : ∀ (v : Nat) (τ : cl_S), v < 4 → (ev_R X d m_Sa_begin 2 [some (.ref (B + 39)), some (.int x), some (.int (nI v))] [] (cl_put B τ g) Q ↔ ev_R X d m_Sa_begin 2 [some (.ref (B + 39)), some (.int x), some (.int (nI (v + 1)))] [] (cl_put B (cl_s τ 44 v 0) g) Q) := fun v τ hv => by
    have c : ¬ (4 : Int32) ≤ nI v := nI_ge (b := 4) hv (by decide)
    conv => lhs; simp (disch := first | exact ev_ok_i _ | exact ev_ok_r _ | exact ev_ok_n | omega | assumption | decide) only [e_Sa_begin_2, e_Sa_begin_3, e_Sa_begin_4, e_Sa_begin_7, e_Sa_begin_8, e_Sa_begin_11, e_Sa_begin_12, e_Sa_begin_15, e_Sa_begin_16, e_Sa_begin_17, e_Sa_begin_18, ev_rm_n, ev_rm_i, ev_rm_r, ev_rm_l, ev_ok_n, ev_ok_i, ev_ok_r, Option.toList_some, Option.toList_none, List.cons_append, List.nil_append, true_and, and_true, true_or, or_true, reduceIte, Nat.reduceEqDiff, if_true, if_false, cg_Dp_rc, cg_Dp_text, cg_Dp_circuit, cg_Dp_reader, cg_Dp_current, cg_Dp_working, cg_Dp_saturator, cg_Dp_table, cg_Te_rc, cg_Te_bytes, cg_Te_length, cp_Te_length, cg_Ci_rc, cg_Ci_kinds, cg_Ci_firsts, cg_Ci_seconds, cg_Ci_inputVariables, cg_Ci_names, cg_Ci_nameLengths, cg_Ci_size, cp_Ci_size, cg_Ci_inputs, cp_Ci_inputs, cg_Re_rc, cg_Re_text, cg_Re_circuit, cg_Re_token, cp_Re_token, cg_Re_start, cp_Re_start, cg_Re_next, cp_Re_next, cg_Re_open, cp_Re_open, cg_Re_fault, cp_Re_fault, cg_Re_faultPlace, cp_Re_faultPlace, cg_Sa_rc, cg_Sa_circuit, cg_Sa_before, cg_Sa_trueBranches, cg_Sa_falseBranches, cg_Sa_tallies, cg_Sa_mostSteps, cp_Sa_mostSteps, cg_Sa_spent, cp_Sa_spent, cg_Ta_rc, cg_Ta_circuit, cg_Ta_words, cr_kinds, cw_kinds, cr_firsts, cw_firsts, cr_seconds, cw_seconds, cr_inputVariables, cw_inputVariables, cr_nameLengths, cw_nameLengths, cr_tallies, cw_tallies, cr_bytes, cw_bytes, cr_words, cw_words, cl_tallies, cr_names, cr_trueB, cr_falseB, cr_name, cw_name, cq_rc, cq_st, cq_size, cq_classes, cq_contradiction, cqp_size, cqp_classes, cqp_contradiction, cq_rd, cq_wr, cq_copy, cl_s_1, cl_s_2, cl_ar_1, cl_ar_2, cl_w_1, cl_w_2, c, xo_in, nI_clamp, nI_1]
    rw [e_Sa_begin_21]
  have e0 : (0 : Int32) = nI 0 := rfl
  have l4 : (4 : Int32) ≤ nI 4 := by decide
  simp (disch := first | exact ev_ok_i _ | exact ev_ok_r _ | exact ev_ok_n | omega | assumption | decide) only [e_Sa_begin_0, e_Sa_begin_1, ev_rm_n, ev_rm_i, ev_rm_r, ev_rm_l, ev_ok_n, ev_ok_i, ev_ok_r, Option.toList_some, Option.toList_none, List.cons_append, List.nil_append, true_and, and_true, true_or, or_true, reduceIte, Nat.reduceEqDiff, if_true, if_false]
  rw [show some (Value.int (0 : Int32)) = some (Value.int (nI 0)) from rfl, it 0 τ (by decide), it 1 _ (by decide), it 2 _ (by decide), it 3 _ (by decide)]
  simp (disch := first | exact ev_ok_i _ | exact ev_ok_r _ | exact ev_ok_n | omega | assumption | decide) only [e_Sa_begin_2, e_Sa_begin_3, e_Sa_begin_4, e_Sa_begin_7, e_Sa_begin_8, e_Sa_begin_24, e_Sa_begin_25, e_Sa_begin_26, e_Sa_begin_29, e_Sa_begin_30, e_Sa_begin_31, e_Sa_begin_34, ev_rm_n, ev_rm_i, ev_rm_r, ev_rm_l, ev_ok_n, ev_ok_i, ev_ok_r, Option.toList_some, Option.toList_none, List.cons_append, List.nil_append, true_and, and_true, true_or, or_true, reduceIte, Nat.reduceEqDiff, if_true, if_false, cg_Dp_rc, cg_Dp_text, cg_Dp_circuit, cg_Dp_reader, cg_Dp_current, cg_Dp_working, cg_Dp_saturator, cg_Dp_table, cg_Te_rc, cg_Te_bytes, cg_Te_length, cp_Te_length, cg_Ci_rc, cg_Ci_kinds, cg_Ci_firsts, cg_Ci_seconds, cg_Ci_inputVariables, cg_Ci_names, cg_Ci_nameLengths, cg_Ci_size, cp_Ci_size, cg_Ci_inputs, cp_Ci_inputs, cg_Re_rc, cg_Re_text, cg_Re_circuit, cg_Re_token, cp_Re_token, cg_Re_start, cp_Re_start, cg_Re_next, cp_Re_next, cg_Re_open, cp_Re_open, cg_Re_fault, cp_Re_fault, cg_Re_faultPlace, cp_Re_faultPlace, cg_Sa_rc, cg_Sa_circuit, cg_Sa_before, cg_Sa_trueBranches, cg_Sa_falseBranches, cg_Sa_tallies, cg_Sa_mostSteps, cp_Sa_mostSteps, cg_Sa_spent, cp_Sa_spent, cg_Ta_rc, cg_Ta_circuit, cg_Ta_words, cr_kinds, cw_kinds, cr_firsts, cw_firsts, cr_seconds, cw_seconds, cr_inputVariables, cw_inputVariables, cr_nameLengths, cw_nameLengths, cr_tallies, cw_tallies, cr_bytes, cw_bytes, cr_words, cw_words, cl_tallies, cr_names, cr_trueB, cr_falseB, cr_name, cw_name, cq_rc, cq_st, cq_size, cq_classes, cq_contradiction, cqp_size, cqp_classes, cqp_contradiction, cq_rd, cq_wr, cq_copy, cl_s_1, cl_s_2, cl_ar_1, cl_ar_2, cl_w_1, cl_w_2, l4]
  refine hQ _ ?_ ?_ ?_ ?_
  · unfold cl_tt
    simp [cl_s_1, upd_a]
    rfl
  · exact cl_ke_tr (cl_ke_tr (cl_ke_tr (cl_ke_tr (cl_ke_tr (cl_ke_s τ 0 _ (Or.inl rfl)) (cl_ke_s _ 1 _ (Or.inl rfl))) (cl_ke_s _ 2 _ (Or.inl rfl))) (cl_ke_s _ 3 _ (Or.inl rfl))) (cl_ke_s _ 5 _ (Or.inr rfl))) (cl_ke_s _ 6 _ (Or.inr rfl))
  · simp [cl_s_1, upd_a]
  · simp [cl_s_1, upd_a]
theorem c_isSpent : ev_C X d m_Sa_isSpent [.ref (B + 39)] (cl_put B τ g) Q ↔ (τ.1 39 6 = 0 ∨ τ.1 39 6 = 1) ∧ Q (some (.int (τ.1 39 6))) (cl_put B τ g) := by
  show ev_R X d m_Sa_isSpent 0 [some (.ref (B + 39))] [] (cl_put B τ g) Q ↔ _
  simp (disch := first | exact ev_ok_i _ | exact ev_ok_r _ | exact ev_ok_n | omega | assumption | decide) only [e_Sa_isSpent_0, e_Sa_isSpent_1, e_Sa_isSpent_4, ev_rm_n, ev_rm_i, ev_rm_r, ev_rm_l, ev_ok_n, ev_ok_i, ev_ok_r, Option.toList_some, Option.toList_none, List.cons_append, List.nil_append, true_and, and_true, true_or, or_true, reduceIte, Nat.reduceEqDiff, if_true, if_false, cg_Dp_rc, cg_Dp_text, cg_Dp_circuit, cg_Dp_reader, cg_Dp_current, cg_Dp_working, cg_Dp_saturator, cg_Dp_table, cg_Te_rc, cg_Te_bytes, cg_Te_length, cp_Te_length, cg_Ci_rc, cg_Ci_kinds, cg_Ci_firsts, cg_Ci_seconds, cg_Ci_inputVariables, cg_Ci_names, cg_Ci_nameLengths, cg_Ci_size, cp_Ci_size, cg_Ci_inputs, cp_Ci_inputs, cg_Re_rc, cg_Re_text, cg_Re_circuit, cg_Re_token, cp_Re_token, cg_Re_start, cp_Re_start, cg_Re_next, cp_Re_next, cg_Re_open, cp_Re_open, cg_Re_fault, cp_Re_fault, cg_Re_faultPlace, cp_Re_faultPlace, cg_Sa_rc, cg_Sa_circuit, cg_Sa_before, cg_Sa_trueBranches, cg_Sa_falseBranches, cg_Sa_tallies, cg_Sa_mostSteps, cp_Sa_mostSteps, cg_Sa_spent, cp_Sa_spent, cg_Ta_rc, cg_Ta_circuit, cg_Ta_words, cr_kinds, cw_kinds, cr_firsts, cw_firsts, cr_seconds, cw_seconds, cr_inputVariables, cw_inputVariables, cr_nameLengths, cw_nameLengths, cr_tallies, cw_tallies, cr_bytes, cw_bytes, cr_words, cw_words, cl_tallies, cr_names, cr_trueB, cr_falseB, cr_name, cw_name, cq_rc, cq_st, cq_size, cq_classes, cq_contradiction, cqp_size, cqp_classes, cqp_contradiction, cq_rd, cq_wr, cq_copy, cl_s_1, cl_s_2, cl_ar_1, cl_ar_2, cl_w_1, cl_w_2]
end CS4
