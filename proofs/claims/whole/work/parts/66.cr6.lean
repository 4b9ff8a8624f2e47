/-! THE CLASS's reader: every level reads as the grammar says (printed by wip/gen/cr6.py) -/
def cr_m (lv : Nat) : Nat := if lv = 0 then m_Re_equality else if lv = 1 then m_Re_implication else if lv = 2 then m_Re_disjunction else if lv = 3 then m_Re_difference else if lv = 4 then m_Re_conjunction else m_Re_operand
/-- from its beginning -/
def cl_PA (X : xo_X) (B : Nat) (g : xo_G) (x : sp_X) (n0 f : Nat) : Prop := ∀ (lv : Nat) (s : sp_P) (τ : cl_S) (e : Nat) (Q : Option Value → xo_G → Prop), sp_pok x n0 s → pF s = 0 → lv ≤ 5 → 8 * (x.2 - s.1) + 7 - lv ≤ f → 6 * (40 - pO s) + (5 - lv) + 12 ≤ e → cl_P τ x s → (∀ τ2 u, cl_P τ2 x (sp_pr x f lv none s).2 → (pF (sp_pr x f lv none s).2 = 0 → u = nI (sp_pr x f lv none s).1) → cl_ke cl_JR τ τ2 → Q (some (.int u)) (cl_put B τ2 g)) → ev_C X e (cr_m lv) [.ref (B + 34)] (cl_put B τ g) Q
/-- behind what is v: the loop, or the choice of an implication -/
def cl_PB (X : xo_X) (B : Nat) (g : xo_G) (x : sp_X) (n0 f : Nat) : Prop := ∀ (lv : Nat) (s : sp_P) (v i : Nat) (τ : cl_S) (e : Nat) (l3 : Option Value) (Q : Option Value → xo_G → Prop), sp_pok x n0 s → pF s = 0 → lv < 5 → ¬ lv = 1 → v < 2 * cN (pC s) → 8 * (x.2 - s.1) + 7 ≤ f → 6 * (40 - pO s) + (5 - lv) + 12 ≤ e → i + 1 ≤ s.1 → cl_P τ x s → (∀ τ2 u, cl_P τ2 x (sp_pr x f lv (some v) s).2 → (pF (sp_pr x f lv (some v) s).2 = 0 → u = nI (sp_pr x f lv (some v) s).1) → cl_ke cl_JR τ τ2 → Q (some (.int u)) (cl_put B τ2 g)) → ev_R X e (cr_m lv) 7 [some (.ref (B + 34)), some (.int (nI v)), some (.int (nI i)), l3] [] (cl_put B τ g) Q
def cl_PC (X : xo_X) (B : Nat) (g : xo_G) (x : sp_X) (n0 f : Nat) : Prop := ∀ (s : sp_P) (v : Nat) (τ : cl_S) (e : Nat) (Q : Option Value → xo_G → Prop), sp_pok x n0 s → pF s = 0 → v < 2 * cN (pC s) → 8 * (x.2 - s.1) + 7 ≤ f → 6 * (40 - pO s) + 4 + 12 ≤ e → cl_P τ x s → (∀ τ2 u, cl_P τ2 x (sp_pr x f 1 (some v) s).2 → (pF (sp_pr x f 1 (some v) s).2 = 0 → u = nI (sp_pr x f 1 (some v) s).1) → cl_ke cl_JR τ τ2 → Q (some (.int u)) (cl_put B τ2 g)) → ev_R X e m_Re_implication 5 [some (.ref (B + 34)), some (.int (nI v)), none, none] [] (cl_put B τ g) Q
theorem cl_P_cg {τ : cl_S} {x : sp_X} {s s2 : sp_P} (hC : pC s2 = pC s) (hF : s2.2.1 = s.2.1) (h : ¬ pF s = 0) (hP : cl_P τ x s) : cl_P τ x s2 := by
  have e : pF s2 = pF s := congrArg Prod.fst hF
  have e2 : s2.2.1.2 = s.2.1.2 := congrArg Prod.snd hF
  have h2 : ¬ pF s2 = 0 := by rw [e]; exact h
  refine ⟨by rw [hC]; exact hP.1, by rw [e]; exact hP.2.1, fun _ => by rw [e2]; exact hP.2.2.1 h, fun z => absurd z h2⟩
theorem cl_P_f6 {τ : cl_S} {x : sp_X} {s : sp_P} (hP : cl_P τ x s) (h : ¬ pF s = 0) (hl : sp_fl s) : ¬ τ.1 34 6 = 0 := by
  rw [hP.2.1]
  have : pF s < 6 := hl
  exact fun z => h ((nE_0 (by omega)).mp z)
theorem sp_look_e {x : sp_X} {s : sp_P} (h : pF (sp_look x s) = 0) : sp_look x s = s := (sp_look_0 h).1
section CR6
variable {X : xo_X} {B : Nat} {τ : cl_S} {g : xo_G} {Q : Option Value → xo_G → Prop} {x : sp_X} {n0 f : Nat}
theorem c_end0 {i e : Nat} {u : Int32} {l3 : Option Value} (h : ¬ τ.1 34 6 = 0) (hQ : Q (some (.int u)) (cl_put B τ g)) : ev_R X (e + 2) m_Re_equality 7 [some (.ref (B + 34)), some (.int u), some (.int (nI i)), l3] [] (cl_put B τ g) Q := by
  have nz : ¬ (0 : Int32) = 12 := by decide
  simp (disch := first | exact ev_ok_i _ | exact ev_ok_r _ | exact ev_ok_n | omega | assumption | decide) only [e_Re_equality_7, e_Re_equality_8, e_Re_equality_11, e_Re_equality_14, e_Re_equality_15, e_Re_equality_18, e_Re_equality_20, e_Re_equality_47, e_Re_equality_48, ev_rm_n, ev_rm_i, ev_rm_r, ev_rm_l, ev_ok_n, ev_ok_i, ev_ok_r, Option.toList_some, Option.toList_none, List.cons_append, List.nil_append, true_and, and_true, true_or, or_true, reduceIte, Nat.reduceEqDiff, if_true, if_false, cg_Dp_rc, cg_Dp_text, cg_Dp_circuit, cg_Dp_reader, cg_Dp_current, cg_Dp_working, cg_Dp_saturator, cg_Dp_table, cg_Te_rc, cg_Te_bytes, cg_Te_length, cp_Te_length, cg_Ci_rc, cg_Ci_kinds, cg_Ci_firsts, cg_Ci_seconds, cg_Ci_inputVariables, cg_Ci_names, cg_Ci_nameLengths, cg_Ci_size, cp_Ci_size, cg_Ci_inputs, cp_Ci_inputs, cg_Re_rc, cg_Re_text, cg_Re_circuit, cg_Re_token, cp_Re_token, cg_Re_start, cp_Re_start, cg_Re_next, cp_Re_next, cg_Re_open, cp_Re_open, cg_Re_fault, cp_Re_fault, cg_Re_faultPlace, cp_Re_faultPlace, cg_Sa_rc, cg_Sa_circuit, cg_Sa_before, cg_Sa_trueBranches, cg_Sa_falseBranches, cg_Sa_tallies, cg_Sa_mostSteps, cp_Sa_mostSteps, cg_Sa_spent, cp_Sa_spent, cg_Ta_rc, cg_Ta_circuit, cg_Ta_words, cr_kinds, cw_kinds, cr_firsts, cw_firsts, cr_seconds, cw_seconds, cr_inputVariables, cw_inputVariables, cr_nameLengths, cw_nameLengths, cr_tallies, cw_tallies, cr_bytes, cw_bytes, cr_words, cw_words, cl_tallies, cr_names, cr_trueB, cr_falseB, cr_name, cw_name, cq_rc, cq_st, cq_size, cq_classes, cq_contradiction, cqp_size, cqp_classes, cqp_contradiction, cq_rd, cq_wr, cq_copy, cl_s_1, cl_s_2, cl_ar_1, cl_ar_2, cl_w_1, cl_w_2, c_reLookF, nz, not_false_eq_true, if_true, ite_self]
  exact hQ
theorem c_PB0 (ihA : cl_PA X B g x n0 f) (ihB : cl_PB X B g x n0 f) (hX : cl_TX X B g) {s : sp_P} {v i e : Nat} {l3 : Option Value} (hok : sp_pok x n0 s) (h0 : pF s = 0) (hv : v < 2 * cN (pC s)) (hf : 8 * (x.2 - s.1) + 7 ≤ f + 1) (he : 6 * (40 - pO s) + (5 - 0) + 12 ≤ e) (hi : i + 1 ≤ s.1) (hP : cl_P τ x s) (hQ : ∀ τ2 u, cl_P τ2 x (sp_pr x (f + 1) 0 (some v) s).2 → (pF (sp_pr x (f + 1) 0 (some v) s).2 = 0 → u = nI (sp_pr x (f + 1) 0 (some v) s).1) → cl_ke cl_JR τ τ2 → Q (some (.int u)) (cl_put B τ2 g)) : ev_R X e m_Re_equality 7 [some (.ref (B + 34)), some (.int (nI v)), some (.int (nI i)), l3] [] (cl_put B τ g) Q := by
  obtain ⟨d, rfl⟩ : ∃ d, e = d + 12 := ⟨e - 12, by omega⟩
  have hx3 := hok.2.2.2.2
  have hpos := hok.2.2.1
  have hi24 := hok.1.1.2.2
  have c1 : ¬ (3000 : Int32) ≤ nI i := nI_ge (b := 3000) (by omega) (by decide)
  have i10 : ¬ (1 : Int32) = 0 := by decide
  have hfl := sp_fl_0 h0
  have kd : cs_kd (tK x s) := sp_tw_kd x _
  rw [sp_pr] at hQ
  simp (disch := first | exact ev_ok_i _ | exact ev_ok_r _ | exact ev_ok_n | omega | assumption | decide) only [e_Re_equality_7, e_Re_equality_8, e_Re_equality_11, e_Re_equality_14, e_Re_equality_15, ev_rm_n, ev_rm_i, ev_rm_r, ev_rm_l, ev_ok_n, ev_ok_i, ev_ok_r, Option.toList_some, Option.toList_none, List.cons_append, List.nil_append, true_and, and_true, true_or, or_true, reduceIte, Nat.reduceEqDiff, if_true, if_false, cg_Dp_rc, cg_Dp_text, cg_Dp_circuit, cg_Dp_reader, cg_Dp_current, cg_Dp_working, cg_Dp_saturator, cg_Dp_table, cg_Te_rc, cg_Te_bytes, cg_Te_length, cp_Te_length, cg_Ci_rc, cg_Ci_kinds, cg_Ci_firsts, cg_Ci_seconds, cg_Ci_inputVariables, cg_Ci_names, cg_Ci_nameLengths, cg_Ci_size, cp_Ci_size, cg_Ci_inputs, cp_Ci_inputs, cg_Re_rc, cg_Re_text, cg_Re_circuit, cg_Re_token, cp_Re_token, cg_Re_start, cp_Re_start, cg_Re_next, cp_Re_next, cg_Re_open, cp_Re_open, cg_Re_fault, cp_Re_fault, cg_Re_faultPlace, cp_Re_faultPlace, cg_Sa_rc, cg_Sa_circuit, cg_Sa_before, cg_Sa_trueBranches, cg_Sa_falseBranches, cg_Sa_tallies, cg_Sa_mostSteps, cp_Sa_mostSteps, cg_Sa_spent, cp_Sa_spent, cg_Ta_rc, cg_Ta_circuit, cg_Ta_words, cr_kinds, cw_kinds, cr_firsts, cw_firsts, cr_seconds, cw_seconds, cr_inputVariables, cw_inputVariables, cr_nameLengths, cw_nameLengths, cr_tallies, cw_tallies, cr_bytes, cw_bytes, cr_words, cw_words, cl_tallies, cr_names, cr_trueB, cr_falseB, cr_name, cw_name, cq_rc, cq_st, cq_size, cq_classes, cq_contradiction, cqp_size, cqp_classes, cqp_contradiction, cq_rd, cq_wr, cq_copy, cl_s_1, cl_s_2, cl_ar_1, cl_ar_2, cl_w_1, cl_w_2, c1]
  refine c_reSees 12 (W := 12) rfl (d := d + 5) hX hP hok h0 (by decide) (by decide) (fun τ2 u0 hu p1 p2 p3 p4 => ?_)
  have k1 : cl_ke cl_JR τ τ2 := cl_ke_mo p4 (fun i z => cl_J4_R z)
  by_cases hl : pF (sp_look x s) = 0
  · have el := sp_look_e hl
    have hL := p3 hl
    rw [el] at p1 hQ
    rw [if_neg (fun z => z h0), if_neg (by decide), show sp_sgv 0 = 261 from rfl, show sp_pr x f (0 + 1) none = sp_pr x f 1 none from rfl] at hQ
    by_cases ht : tK x s = 261
    · have hk : cs_k (tK x s) = 12 := by rw [ht]; decide
      rw [if_pos ht] at hQ
      have hu1 : u0 = 12 := hu.mpr ⟨hl, hk⟩
      have hm := sp_tok_lt hok (by rw [ht]; decide)
      have hok2 := sp_pass_ok hok
      have hT := cl_P_take hi24 p1 hL h0
      have kT : cl_ke cl_JR τ2 (cl_s τ2 34 2 0) := cl_ke_s (S := cl_JR) τ2 2 0 (by decide)
      simp (disch := first | exact ev_ok_i _ | exact ev_ok_r _ | exact ev_ok_n | omega | assumption | decide) only [e_Re_equality_18, e_Re_equality_20, e_Re_equality_23, e_Re_equality_24, e_Re_equality_27, e_Re_equality_28, e_Re_equality_29, e_Re_equality_31, e_Re_equality_32, e_Re_equality_33, e_Re_equality_34, ev_rm_n, ev_rm_i, ev_rm_r, ev_rm_l, ev_ok_n, ev_ok_i, ev_ok_r, Option.toList_some, Option.toList_none, List.cons_append, List.nil_append, true_and, and_true, true_or, or_true, reduceIte, Nat.reduceEqDiff, if_true, if_false, cg_Dp_rc, cg_Dp_text, cg_Dp_circuit, cg_Dp_reader, cg_Dp_current, cg_Dp_working, cg_Dp_saturator, cg_Dp_table, cg_Te_rc, cg_Te_bytes, cg_Te_length, cp_Te_length, cg_Ci_rc, cg_Ci_kinds, cg_Ci_firsts, cg_Ci_seconds, cg_Ci_inputVariables, cg_Ci_names, cg_Ci_nameLengths, cg_Ci_size, cp_Ci_size, cg_Ci_inputs, cp_Ci_inputs, cg_Re_rc, cg_Re_text, cg_Re_circuit, cg_Re_token, cp_Re_token, cg_Re_start, cp_Re_start, cg_Re_next, cp_Re_next, cg_Re_open, cp_Re_open, cg_Re_fault, cp_Re_fault, cg_Re_faultPlace, cp_Re_faultPlace, cg_Sa_rc, cg_Sa_circuit, cg_Sa_before, cg_Sa_trueBranches, cg_Sa_falseBranches, cg_Sa_tallies, cg_Sa_mostSteps, cp_Sa_mostSteps, cg_Sa_spent, cp_Sa_spent, cg_Ta_rc, cg_Ta_circuit, cg_Ta_words, cr_kinds, cw_kinds, cr_firsts, cw_firsts, cr_seconds, cw_seconds, cr_inputVariables, cw_inputVariables, cr_nameLengths, cw_nameLengths, cr_tallies, cw_tallies, cr_bytes, cw_bytes, cr_words, cw_words, cl_tallies, cr_names, cr_trueB, cr_falseB, cr_name, cw_name, cq_rc, cq_st, cq_size, cq_classes, cq_contradiction, cqp_size, cqp_classes, cqp_contradiction, cq_rd, cq_wr, cq_copy, cl_s_1, cl_s_2, cl_ar_1, cl_ar_2, cl_w_1, cl_w_2, hu1, not_true_eq_false, if_false, c_take2, hL.2.1]
      have htl : tS x s + tZ x s ≤ x.2 := (sp_tw_sz (sp_ts_le hok.2.2.1).2).1
      refine ihA 1 (sp_pass x s) _ (d + 11) _ hok2 h0 (by decide) (by show 8 * (x.2 - (tS x s + tZ x s)) + 7 - 1 ≤ f; omega) (by show 6 * (40 - pO s) + (5 - 1) + 12 ≤ d + 11; omega) hT (fun τ3 u q1 q2 q3 => ?_)
      have hr := sp_pr_ok x n0 f 1 none (sp_pass x s) hok2 h0 (by decide) (fun _ => by show 8 * (x.2 - (tS x s + tZ x s)) + 7 - 1 ≤ f; omega) (fun v hv => by cases hv)
      have hrf : sp_fl (sp_pr x f 1 none (sp_pass x s)).2 := sp_pr_fl f 1 none (sp_pass x s) hfl
      have k3 : cl_ke cl_JR τ τ3 := cl_ke_tr k1 (cl_ke_tr kT q3)
      generalize sp_pr x f 1 none (sp_pass x s) = r at hQ q1 q2 hr hrf
      obtain ⟨r1, r2, r3⟩ := hr
      have r2' : cN (pC s) ≤ cN (pC r.2) := r2
      by_cases hz : pF r.2 = 0
      · obtain ⟨w1, w2, w3, w4⟩ := r3 hz
        have w5 : tS x s + tZ x s ≤ r.2.1 := w3
        rw [if_neg (fun z => z hz)] at hQ
        rw [q2 hz]
        simp (disch := first | exact ev_ok_i _ | exact ev_ok_r _ | exact ev_ok_n | omega | assumption | decide) only [ev_rm_n, ev_rm_i, ev_rm_r, ev_rm_l, ev_ok_n, ev_ok_i, ev_ok_r, Option.toList_some, Option.toList_none, List.cons_append, List.nil_append, true_and, and_true, true_or, or_true, reduceIte, Nat.reduceEqDiff, if_true, if_false]
        rw [e_Re_equality_37]
        simp (disch := first | exact ev_ok_i _ | exact ev_ok_r _ | exact ev_ok_n | omega | assumption | decide) only [ev_rm_n, ev_rm_i, ev_rm_r, ev_rm_l, ev_ok_n, ev_ok_i, ev_ok_r, Option.toList_some, Option.toList_none, List.cons_append, List.nil_append, true_and, and_true, true_or, or_true, reduceIte, Nat.reduceEqDiff, if_true, if_false, cg_Dp_rc, cg_Dp_text, cg_Dp_circuit, cg_Dp_reader, cg_Dp_current, cg_Dp_working, cg_Dp_saturator, cg_Dp_table, cg_Te_rc, cg_Te_bytes, cg_Te_length, cp_Te_length, cg_Ci_rc, cg_Ci_kinds, cg_Ci_firsts, cg_Ci_seconds, cg_Ci_inputVariables, cg_Ci_names, cg_Ci_nameLengths, cg_Ci_size, cp_Ci_size, cg_Ci_inputs, cp_Ci_inputs, cg_Re_rc, cg_Re_text, cg_Re_circuit, cg_Re_token, cp_Re_token, cg_Re_start, cp_Re_start, cg_Re_next, cp_Re_next, cg_Re_open, cp_Re_open, cg_Re_fault, cp_Re_fault, cg_Re_faultPlace, cp_Re_faultPlace, cg_Sa_rc, cg_Sa_circuit, cg_Sa_before, cg_Sa_trueBranches, cg_Sa_falseBranches, cg_Sa_tallies, cg_Sa_mostSteps, cp_Sa_mostSteps, cg_Sa_spent, cp_Sa_spent, cg_Ta_rc, cg_Ta_circuit, cg_Ta_words, cr_kinds, cw_kinds, cr_firsts, cw_firsts, cr_seconds, cw_seconds, cr_inputVariables, cw_inputVariables, cr_nameLengths, cw_nameLengths, cr_tallies, cw_tallies, cr_bytes, cw_bytes, cr_words, cw_words, cl_tallies, cr_names, cr_trueB, cr_falseB, cr_name, cw_name, cq_rc, cq_st, cq_size, cq_classes, cq_contradiction, cqp_size, cqp_classes, cqp_contradiction, cq_rd, cq_wr, cq_copy, cl_s_1, cl_s_2, cl_ar_1, cl_ar_2, cl_w_1, cl_w_2]
        refine c_combine (lv := 0) (d := d + 8) (by decide) q1 r1 hz (by omega) w1 (fun τ4 u2 t1 t2 t3 => ?_)
        have hcm := sp_cmb_ok (lv := 0) (v := v) (w := r.1) (a := tS x s) r1 hz (by omega) w1
        have hcf := sp_cmb_fl hrf 0 v r.1 (tS x s)
        generalize sp_cmb 0 v r.1 (tS x s) r.2 = u3 at hQ t1 t2 hcm hcf
        obtain ⟨m1, m2, m3⟩ := hcm
        simp (disch := first | exact ev_ok_i _ | exact ev_ok_r _ | exact ev_ok_n | omega | assumption | decide) only [e_Re_equality_40, e_Re_equality_41, ev_rm_n, ev_rm_i, ev_rm_r, ev_rm_l, ev_ok_n, ev_ok_i, ev_ok_r, Option.toList_some, Option.toList_none, List.cons_append, List.nil_append, true_and, and_true, true_or, or_true, reduceIte, Nat.reduceEqDiff, if_true, if_false, nI_1]
        rw [e_Re_equality_44]
        by_cases hcz : pF u3.2 = 0
        · rw [if_neg (fun z => z hcz)] at hQ
          obtain ⟨n1, n2, n3⟩ := m3 hcz
          have w6 := m1.2.2.1
          rw [t2 hcz]
          exact ihB 0 u3.2 u3.1 (i + 1) τ4 (d + 12) _ Q m1 hcz (by decide) (by decide) n1 (by omega) (by rw [n2, w2]; exact he) (by omega) t1 (fun τ5 u4 y1 y2 y3 => hQ τ5 u4 y1 y2 (cl_ke_tr k3 (cl_ke_tr t3 y3)))
        · rw [if_pos hcz] at hQ
          exact c_end0 (e := d + 10) (cl_P_f6 t1 hcz hcf) (hQ τ4 u2 t1 (fun z => absurd z hcz) (cl_ke_tr k3 t3))
      · rw [if_pos hz] at hQ
        have x6 := cl_P_f6 q1 hz hrf
        simp (disch := first | exact ev_ok_i _ | exact ev_ok_r _ | exact ev_ok_n | omega | assumption | decide) only [e_Re_equality_37, ev_rm_n, ev_rm_i, ev_rm_r, ev_rm_l, ev_ok_n, ev_ok_i, ev_ok_r, Option.toList_some, Option.toList_none, List.cons_append, List.nil_append, true_and, and_true, true_or, or_true, reduceIte, Nat.reduceEqDiff, if_true, if_false, cg_Dp_rc, cg_Dp_text, cg_Dp_circuit, cg_Dp_reader, cg_Dp_current, cg_Dp_working, cg_Dp_saturator, cg_Dp_table, cg_Te_rc, cg_Te_bytes, cg_Te_length, cp_Te_length, cg_Ci_rc, cg_Ci_kinds, cg_Ci_firsts, cg_Ci_seconds, cg_Ci_inputVariables, cg_Ci_names, cg_Ci_nameLengths, cg_Ci_size, cp_Ci_size, cg_Ci_inputs, cp_Ci_inputs, cg_Re_rc, cg_Re_text, cg_Re_circuit, cg_Re_token, cp_Re_token, cg_Re_start, cp_Re_start, cg_Re_next, cp_Re_next, cg_Re_open, cp_Re_open, cg_Re_fault, cp_Re_fault, cg_Re_faultPlace, cp_Re_faultPlace, cg_Sa_rc, cg_Sa_circuit, cg_Sa_before, cg_Sa_trueBranches, cg_Sa_falseBranches, cg_Sa_tallies, cg_Sa_mostSteps, cp_Sa_mostSteps, cg_Sa_spent, cp_Sa_spent, cg_Ta_rc, cg_Ta_circuit, cg_Ta_words, cr_kinds, cw_kinds, cr_firsts, cw_firsts, cr_seconds, cw_seconds, cr_inputVariables, cw_inputVariables, cr_nameLengths, cw_nameLengths, cr_tallies, cw_tallies, cr_bytes, cw_bytes, cr_words, cw_words, cl_tallies, cr_names, cr_trueB, cr_falseB, cr_name, cw_name, cq_rc, cq_st, cq_size, cq_classes, cq_contradiction, cqp_size, cqp_classes, cqp_contradiction, cq_rd, cq_wr, cq_copy, cl_s_1, cl_s_2, cl_ar_1, cl_ar_2, cl_w_1, cl_w_2, c_combineF]
        simp (disch := first | exact ev_ok_i _ | exact ev_ok_r _ | exact ev_ok_n | omega | assumption | decide) only [e_Re_equality_40, e_Re_equality_41, ev_rm_n, ev_rm_i, ev_rm_r, ev_rm_l, ev_ok_n, ev_ok_i, ev_ok_r, Option.toList_some, Option.toList_none, List.cons_append, List.nil_append, true_and, and_true, true_or, or_true, reduceIte, Nat.reduceEqDiff, if_true, if_false, nI_1]
        rw [e_Re_equality_44]
        exact c_end0 (e := d + 10) x6 (hQ τ3 _ q1 (fun z => absurd z hz) k3)
    · have hk : ¬ cs_k (tK x s) = 12 := fun z => ht ((cs_k_inj kd (by unfold cs_kd; simp)).mp (z.trans (by decide : 12 = cs_k 261)))
      rw [if_neg ht] at hQ
      have hu0 : ¬ u0 = 12 := fun z => hk (hu.mp z).2
      simp (disch := first | exact ev_ok_i _ | exact ev_ok_r _ | exact ev_ok_n | omega | assumption | decide) only [e_Re_equality_18, e_Re_equality_20, e_Re_equality_47, e_Re_equality_48, ev_rm_n, ev_rm_i, ev_rm_r, ev_rm_l, ev_ok_n, ev_ok_i, ev_ok_r, Option.toList_some, Option.toList_none, List.cons_append, List.nil_append, true_and, and_true, true_or, or_true, reduceIte, Nat.reduceEqDiff, if_true, if_false, hu0, not_false_eq_true, if_true]
      exact hQ τ2 _ p1 (fun _ => rfl) k1
  · rw [if_pos hl] at hQ
    have hu0 : ¬ u0 = 12 := fun z => hl (hu.mp z).1
    simp (disch := first | exact ev_ok_i _ | exact ev_ok_r _ | exact ev_ok_n | omega | assumption | decide) only [e_Re_equality_18, e_Re_equality_20, e_Re_equality_47, e_Re_equality_48, ev_rm_n, ev_rm_i, ev_rm_r, ev_rm_l, ev_ok_n, ev_ok_i, ev_ok_r, Option.toList_some, Option.toList_none, List.cons_append, List.nil_append, true_and, and_true, true_or, or_true, reduceIte, Nat.reduceEqDiff, if_true, if_false, hu0, not_false_eq_true, if_true]
    exact hQ τ2 _ p1 (fun z => absurd z hl) k1
theorem c_PA0 (ihA : cl_PA X B g x n0 f) (ihB : cl_PB X B g x n0 f) {s : sp_P} {e : Nat} (hok : sp_pok x n0 s) (h0 : pF s = 0) (hf : 8 * (x.2 - s.1) + 7 - 0 ≤ f + 1) (he : 6 * (40 - pO s) + (5 - 0) + 12 ≤ e) (hP : cl_P τ x s) (hQ : ∀ τ2 u, cl_P τ2 x (sp_pr x (f + 1) 0 none s).2 → (pF (sp_pr x (f + 1) 0 none s).2 = 0 → u = nI (sp_pr x (f + 1) 0 none s).1) → cl_ke cl_JR τ τ2 → Q (some (.int u)) (cl_put B τ2 g)) : ev_C X e m_Re_equality [.ref (B + 34)] (cl_put B τ g) Q := by
  obtain ⟨d, rfl⟩ : ∃ d, e = d + 12 := ⟨e - 12, by omega⟩
  show ev_R X (d + 12) m_Re_equality 0 [some (.ref (B + 34)), none, none, none] [] (cl_put B τ g) Q
  have hpos := hok.2.2.1
  rw [sp_pr, if_neg (by decide), show sp_pr x f (0 + 1) none = sp_pr x f 1 none from rfl] at hQ
  simp (disch := first | exact ev_ok_i _ | exact ev_ok_r _ | exact ev_ok_n | omega | assumption | decide) only [e_Re_equality_0, e_Re_equality_1, ev_rm_n, ev_rm_i, ev_rm_r, ev_rm_l, ev_ok_n, ev_ok_i, ev_ok_r, Option.toList_some, Option.toList_none, List.cons_append, List.nil_append, true_and, and_true, true_or, or_true, reduceIte, Nat.reduceEqDiff, if_true, if_false, cg_Dp_rc, cg_Dp_text, cg_Dp_circuit, cg_Dp_reader, cg_Dp_current, cg_Dp_working, cg_Dp_saturator, cg_Dp_table, cg_Te_rc, cg_Te_bytes, cg_Te_length, cp_Te_length, cg_Ci_rc, cg_Ci_kinds, cg_Ci_firsts, cg_Ci_seconds, cg_Ci_inputVariables, cg_Ci_names, cg_Ci_nameLengths, cg_Ci_size, cp_Ci_size, cg_Ci_inputs, cp_Ci_inputs, cg_Re_rc, cg_Re_text, cg_Re_circuit, cg_Re_token, cp_Re_token, cg_Re_start, cp_Re_start, cg_Re_next, cp_Re_next, cg_Re_open, cp_Re_open, cg_Re_fault, cp_Re_fault, cg_Re_faultPlace, cp_Re_faultPlace, cg_Sa_rc, cg_Sa_circuit, cg_Sa_before, cg_Sa_trueBranches, cg_Sa_falseBranches, cg_Sa_tallies, cg_Sa_mostSteps, cp_Sa_mostSteps, cg_Sa_spent, cp_Sa_spent, cg_Ta_rc, cg_Ta_circuit, cg_Ta_words, cr_kinds, cw_kinds, cr_firsts, cw_firsts, cr_seconds, cw_seconds, cr_inputVariables, cw_inputVariables, cr_nameLengths, cw_nameLengths, cr_tallies, cw_tallies, cr_bytes, cw_bytes, cr_words, cw_words, cl_tallies, cr_names, cr_trueB, cr_falseB, cr_name, cw_name, cq_rc, cq_st, cq_size, cq_classes, cq_contradiction, cqp_size, cqp_classes, cqp_contradiction, cq_rd, cq_wr, cq_copy, cl_s_1, cl_s_2, cl_ar_1, cl_ar_2, cl_w_1, cl_w_2]
  refine ihA 1 s τ (d + 11) _ hok h0 (by decide) (by omega) (by omega) hP (fun τ3 u q1 q2 q3 => ?_)
  have hr := sp_pr_ok x n0 f 1 none s hok h0 (by decide) (fun _ => by omega) (fun v hv => by cases hv)
  have hrf : sp_fl (sp_pr x f 1 none s).2 := sp_pr_fl f 1 none s (sp_fl_0 h0)
  generalize sp_pr x f 1 none s = r at hQ q1 q2 hr hrf
  obtain ⟨r1, r2, r3⟩ := hr
  have e0 : (0 : Int32) = nI 0 := rfl
  simp (disch := first | exact ev_ok_i _ | exact ev_ok_r _ | exact ev_ok_n | omega | assumption | decide) only [e_Re_equality_4, e_Re_equality_5, e_Re_equality_6, ev_rm_n, ev_rm_i, ev_rm_r, ev_rm_l, ev_ok_n, ev_ok_i, ev_ok_r, Option.toList_some, Option.toList_none, List.cons_append, List.nil_append, true_and, and_true, true_or, or_true, reduceIte, Nat.reduceEqDiff, if_true, if_false]
  by_cases hz : pF r.2 = 0
  · rw [if_neg (fun z => z hz)] at hQ
    obtain ⟨w1, w2, w3, w4⟩ := r3 hz
    have w5 := w4 rfl
    have w6 := r1.2.2.1
    rw [q2 hz]
    exact ihB 0 r.2 r.1 0 τ3 (d + 12) none Q r1 hz (by decide) (by decide) w1 (by omega) (by rw [w2]; exact he) (by omega) q1 (fun τ5 u4 y1 y2 y3 => hQ τ5 u4 y1 y2 (cl_ke_tr q3 y3))
  · rw [if_pos hz] at hQ
    exact c_end0 (i := 0) (e := d + 10) (cl_P_f6 q1 hz hrf) (hQ τ3 u q1 (fun z => absurd z hz) q3)
theorem c_end2 {i e : Nat} {u : Int32} {l3 : Option Value} (h : ¬ τ.1 34 6 = 0) (hQ : Q (some (.int u)) (cl_put B τ g)) : ev_R X (e + 2) m_Re_disjunction 7 [some (.ref (B + 34)), some (.int u), some (.int (nI i)), l3] [] (cl_put B τ g) Q := by
  have nz : ¬ (0 : Int32) = 10 := by decide
  simp (disch := first | exact ev_ok_i _ | exact ev_ok_r _ | exact ev_ok_n | omega | assumption | decide) only [e_Re_disjunction_7, e_Re_disjunction_8, e_Re_disjunction_11, e_Re_disjunction_14, e_Re_disjunction_15, e_Re_disjunction_18, e_Re_disjunction_20, e_Re_disjunction_47, e_Re_disjunction_48, ev_rm_n, ev_rm_i, ev_rm_r, ev_rm_l, ev_ok_n, ev_ok_i, ev_ok_r, Option.toList_some, Option.toList_none, List.cons_append, List.nil_append, true_and, and_true, true_or, or_true, reduceIte, Nat.reduceEqDiff, if_true, if_false, cg_Dp_rc, cg_Dp_text, cg_Dp_circuit, cg_Dp_reader, cg_Dp_current, cg_Dp_working, cg_Dp_saturator, cg_Dp_table, cg_Te_rc, cg_Te_bytes, cg_Te_length, cp_Te_length, cg_Ci_rc, cg_Ci_kinds, cg_Ci_firsts, cg_Ci_seconds, cg_Ci_inputVariables, cg_Ci_names, cg_Ci_nameLengths, cg_Ci_size, cp_Ci_size, cg_Ci_inputs, cp_Ci_inputs, cg_Re_rc, cg_Re_text, cg_Re_circuit, cg_Re_token, cp_Re_token, cg_Re_start, cp_Re_start, cg_Re_next, cp_Re_next, cg_Re_open, cp_Re_open, cg_Re_fault, cp_Re_fault, cg_Re_faultPlace, cp_Re_faultPlace, cg_Sa_rc, cg_Sa_circuit, cg_Sa_before, cg_Sa_trueBranches, cg_Sa_falseBranches, cg_Sa_tallies, cg_Sa_mostSteps, cp_Sa_mostSteps, cg_Sa_spent, cp_Sa_spent, cg_Ta_rc, cg_Ta_circuit, cg_Ta_words, cr_kinds, cw_kinds, cr_firsts, cw_firsts, cr_seconds, cw_seconds, cr_inputVariables, cw_inputVariables, cr_nameLengths, cw_nameLengths, cr_tallies, cw_tallies, cr_bytes, cw_bytes, cr_words, cw_words, cl_tallies, cr_names, cr_trueB, cr_falseB, cr_name, cw_name, cq_rc, cq_st, cq_size, cq_classes, cq_contradiction, cqp_size, cqp_classes, cqp_contradiction, cq_rd, cq_wr, cq_copy, cl_s_1, cl_s_2, cl_ar_1, cl_ar_2, cl_w_1, cl_w_2, c_reLookF, nz, not_false_eq_true, if_true, ite_self]
  exact hQ
theorem c_PB2 (ihA : cl_PA X B g x n0 f) (ihB : cl_PB X B g x n0 f) (hX : cl_TX X B g) {s : sp_P} {v i e : Nat} {l3 : Option Value} (hok : sp_pok x n0 s) (h0 : pF s = 0) (hv : v < 2 * cN (pC s)) (hf : 8 * (x.2 - s.1) + 7 ≤ f + 1) (he : 6 * (40 - pO s) + (5 - 2) + 12 ≤ e) (hi : i + 1 ≤ s.1) (hP : cl_P τ x s) (hQ : ∀ τ2 u, cl_P τ2 x (sp_pr x (f + 1) 2 (some v) s).2 → (pF (sp_pr x (f + 1) 2 (some v) s).2 = 0 → u = nI (sp_pr x (f + 1) 2 (some v) s).1) → cl_ke cl_JR τ τ2 → Q (some (.int u)) (cl_put B τ2 g)) : ev_R X e m_Re_disjunction 7 [some (.ref (B + 34)), some (.int (nI v)), some (.int (nI i)), l3] [] (cl_put B τ g) Q := by
  obtain ⟨d, rfl⟩ : ∃ d, e = d + 12 := ⟨e - 12, by omega⟩
  have hx3 := hok.2.2.2.2
  have hpos := hok.2.2.1
  have hi24 := hok.1.1.2.2
  have c1 : ¬ (3000 : Int32) ≤ nI i := nI_ge (b := 3000) (by omega) (by decide)
  have i10 : ¬ (1 : Int32) = 0 := by decide
  have hfl := sp_fl_0 h0
  have kd : cs_kd (tK x s) := sp_tw_kd x _
  rw [sp_pr] at hQ
  simp (disch := first | exact ev_ok_i _ | exact ev_ok_r _ | exact ev_ok_n | omega | assumption | decide) only [e_Re_disjunction_7, e_Re_disjunction_8, e_Re_disjunction_11, e_Re_disjunction_14, e_Re_disjunction_15, ev_rm_n, ev_rm_i, ev_rm_r, ev_rm_l, ev_ok_n, ev_ok_i, ev_ok_r, Option.toList_some, Option.toList_none, List.cons_append, List.nil_append, true_and, and_true, true_or, or_true, reduceIte, Nat.reduceEqDiff, if_true, if_false, cg_Dp_rc, cg_Dp_text, cg_Dp_circuit, cg_Dp_reader, cg_Dp_current, cg_Dp_working, cg_Dp_saturator, cg_Dp_table, cg_Te_rc, cg_Te_bytes, cg_Te_length, cp_Te_length, cg_Ci_rc, cg_Ci_kinds, cg_Ci_firsts, cg_Ci_seconds, cg_Ci_inputVariables, cg_Ci_names, cg_Ci_nameLengths, cg_Ci_size, cp_Ci_size, cg_Ci_inputs, cp_Ci_inputs, cg_Re_rc, cg_Re_text, cg_Re_circuit, cg_Re_token, cp_Re_token, cg_Re_start, cp_Re_start, cg_Re_next, cp_Re_next, cg_Re_open, cp_Re_open, cg_Re_fault, cp_Re_fault, cg_Re_faultPlace, cp_Re_faultPlace, cg_Sa_rc, cg_Sa_circuit, cg_Sa_before, cg_Sa_trueBranches, cg_Sa_falseBranches, cg_Sa_tallies, cg_Sa_mostSteps, cp_Sa_mostSteps, cg_Sa_spent, cp_Sa_spent, cg_Ta_rc, cg_Ta_circuit, cg_Ta_words, cr_kinds, cw_kinds, cr_firsts, cw_firsts, cr_seconds, cw_seconds, cr_inputVariables, cw_inputVariables, cr_nameLengths, cw_nameLengths, cr_tallies, cw_tallies, cr_bytes, cw_bytes, cr_words, cw_words, cl_tallies, cr_names, cr_trueB, cr_falseB, cr_name, cw_name, cq_rc, cq_st, cq_size, cq_classes, cq_contradiction, cqp_size, cqp_classes, cqp_contradiction, cq_rd, cq_wr, cq_copy, cl_s_1, cl_s_2, cl_ar_1, cl_ar_2, cl_w_1, cl_w_2, c1]
  refine c_reSees 10 (W := 10) rfl (d := d + 5) hX hP hok h0 (by decide) (by decide) (fun τ2 u0 hu p1 p2 p3 p4 => ?_)
  have k1 : cl_ke cl_JR τ τ2 := cl_ke_mo p4 (fun i z => cl_J4_R z)
  by_cases hl : pF (sp_look x s) = 0
  · have el := sp_look_e hl
    have hL := p3 hl
    rw [el] at p1 hQ
    rw [if_neg (fun z => z h0), if_neg (by decide), show sp_sgv 2 = 124 from rfl, show sp_pr x f (2 + 1) none = sp_pr x f 3 none from rfl] at hQ
    by_cases ht : tK x s = 124
    · have hk : cs_k (tK x s) = 10 := by rw [ht]; decide
      rw [if_pos ht] at hQ
      have hu1 : u0 = 10 := hu.mpr ⟨hl, hk⟩
      have hm := sp_tok_lt hok (by rw [ht]; decide)
      have hok2 := sp_pass_ok hok
      have hT := cl_P_take hi24 p1 hL h0
      have kT : cl_ke cl_JR τ2 (cl_s τ2 34 2 0) := cl_ke_s (S := cl_JR) τ2 2 0 (by decide)
      simp (disch := first | exact ev_ok_i _ | exact ev_ok_r _ | exact ev_ok_n | omega | assumption | decide) only [e_Re_disjunction_18, e_Re_disjunction_20, e_Re_disjunction_23, e_Re_disjunction_24, e_Re_disjunction_27, e_Re_disjunction_28, e_Re_disjunction_29, e_Re_disjunction_31, e_Re_disjunction_32, e_Re_disjunction_33, e_Re_disjunction_34, ev_rm_n, ev_rm_i, ev_rm_r, ev_rm_l, ev_ok_n, ev_ok_i, ev_ok_r, Option.toList_some, Option.toList_none, List.cons_append, List.nil_append, true_and, and_true, true_or, or_true, reduceIte, Nat.reduceEqDiff, if_true, if_false, cg_Dp_rc, cg_Dp_text, cg_Dp_circuit, cg_Dp_reader, cg_Dp_current, cg_Dp_working, cg_Dp_saturator, cg_Dp_table, cg_Te_rc, cg_Te_bytes, cg_Te_length, cp_Te_length, cg_Ci_rc, cg_Ci_kinds, cg_Ci_firsts, cg_Ci_seconds, cg_Ci_inputVariables, cg_Ci_names, cg_Ci_nameLengths, cg_Ci_size, cp_Ci_size, cg_Ci_inputs, cp_Ci_inputs, cg_Re_rc, cg_Re_text, cg_Re_circuit, cg_Re_token, cp_Re_token, cg_Re_start, cp_Re_start, cg_Re_next, cp_Re_next, cg_Re_open, cp_Re_open, cg_Re_fault, cp_Re_fault, cg_Re_faultPlace, cp_Re_faultPlace, cg_Sa_rc, cg_Sa_circuit, cg_Sa_before, cg_Sa_trueBranches, cg_Sa_falseBranches, cg_Sa_tallies, cg_Sa_mostSteps, cp_Sa_mostSteps, cg_Sa_spent, cp_Sa_spent, cg_Ta_rc, cg_Ta_circuit, cg_Ta_words, cr_kinds, cw_kinds, cr_firsts, cw_firsts, cr_seconds, cw_seconds, cr_inputVariables, cw_inputVariables, cr_nameLengths, cw_nameLengths, cr_tallies, cw_tallies, cr_bytes, cw_bytes, cr_words, cw_words, cl_tallies, cr_names, cr_trueB, cr_falseB, cr_name, cw_name, cq_rc, cq_st, cq_size, cq_classes, cq_contradiction, cqp_size, cqp_classes, cqp_contradiction, cq_rd, cq_wr, cq_copy, cl_s_1, cl_s_2, cl_ar_1, cl_ar_2, cl_w_1, cl_w_2, hu1, not_true_eq_false, if_false, c_take2, hL.2.1]
      have htl : tS x s + tZ x s ≤ x.2 := (sp_tw_sz (sp_ts_le hok.2.2.1).2).1
      refine ihA 3 (sp_pass x s) _ (d + 11) _ hok2 h0 (by decide) (by show 8 * (x.2 - (tS x s + tZ x s)) + 7 - 3 ≤ f; omega) (by show 6 * (40 - pO s) + (5 - 3) + 12 ≤ d + 11; omega) hT (fun τ3 u q1 q2 q3 => ?_)
      have hr := sp_pr_ok x n0 f 3 none (sp_pass x s) hok2 h0 (by decide) (fun _ => by show 8 * (x.2 - (tS x s + tZ x s)) + 7 - 3 ≤ f; omega) (fun v hv => by cases hv)
      have hrf : sp_fl (sp_pr x f 3 none (sp_pass x s)).2 := sp_pr_fl f 3 none (sp_pass x s) hfl
      have k3 : cl_ke cl_JR τ τ3 := cl_ke_tr k1 (cl_ke_tr kT q3)
      generalize sp_pr x f 3 none (sp_pass x s) = r at hQ q1 q2 hr hrf
      obtain ⟨r1, r2, r3⟩ := hr
      have r2' : cN (pC s) ≤ cN (pC r.2) := r2
      by_cases hz : pF r.2 = 0
      · obtain ⟨w1, w2, w3, w4⟩ := r3 hz
        have w5 : tS x s + tZ x s ≤ r.2.1 := w3
        rw [if_neg (fun z => z hz)] at hQ
        rw [q2 hz]
        simp (disch := first | exact ev_ok_i _ | exact ev_ok_r _ | exact ev_ok_n | omega | assumption | decide) only [ev_rm_n, ev_rm_i, ev_rm_r, ev_rm_l, ev_ok_n, ev_ok_i, ev_ok_r, Option.toList_some, Option.toList_none, List.cons_append, List.nil_append, true_and, and_true, true_or, or_true, reduceIte, Nat.reduceEqDiff, if_true, if_false]
        rw [e_Re_disjunction_37]
        simp (disch := first | exact ev_ok_i _ | exact ev_ok_r _ | exact ev_ok_n | omega | assumption | decide) only [ev_rm_n, ev_rm_i, ev_rm_r, ev_rm_l, ev_ok_n, ev_ok_i, ev_ok_r, Option.toList_some, Option.toList_none, List.cons_append, List.nil_append, true_and, and_true, true_or, or_true, reduceIte, Nat.reduceEqDiff, if_true, if_false, cg_Dp_rc, cg_Dp_text, cg_Dp_circuit, cg_Dp_reader, cg_Dp_current, cg_Dp_working, cg_Dp_saturator, cg_Dp_table, cg_Te_rc, cg_Te_bytes, cg_Te_length, cp_Te_length, cg_Ci_rc, cg_Ci_kinds, cg_Ci_firsts, cg_Ci_seconds, cg_Ci_inputVariables, cg_Ci_names, cg_Ci_nameLengths, cg_Ci_size, cp_Ci_size, cg_Ci_inputs, cp_Ci_inputs, cg_Re_rc, cg_Re_text, cg_Re_circuit, cg_Re_token, cp_Re_token, cg_Re_start, cp_Re_start, cg_Re_next, cp_Re_next, cg_Re_open, cp_Re_open, cg_Re_fault, cp_Re_fault, cg_Re_faultPlace, cp_Re_faultPlace, cg_Sa_rc, cg_Sa_circuit, cg_Sa_before, cg_Sa_trueBranches, cg_Sa_falseBranches, cg_Sa_tallies, cg_Sa_mostSteps, cp_Sa_mostSteps, cg_Sa_spent, cp_Sa_spent, cg_Ta_rc, cg_Ta_circuit, cg_Ta_words, cr_kinds, cw_kinds, cr_firsts, cw_firsts, cr_seconds, cw_seconds, cr_inputVariables, cw_inputVariables, cr_nameLengths, cw_nameLengths, cr_tallies, cw_tallies, cr_bytes, cw_bytes, cr_words, cw_words, cl_tallies, cr_names, cr_trueB, cr_falseB, cr_name, cw_name, cq_rc, cq_st, cq_size, cq_classes, cq_contradiction, cqp_size, cqp_classes, cqp_contradiction, cq_rd, cq_wr, cq_copy, cl_s_1, cl_s_2, cl_ar_1, cl_ar_2, cl_w_1, cl_w_2]
        refine c_combine (lv := 2) (d := d + 8) (by decide) q1 r1 hz (by omega) w1 (fun τ4 u2 t1 t2 t3 => ?_)
        have hcm := sp_cmb_ok (lv := 2) (v := v) (w := r.1) (a := tS x s) r1 hz (by omega) w1
        have hcf := sp_cmb_fl hrf 2 v r.1 (tS x s)
        generalize sp_cmb 2 v r.1 (tS x s) r.2 = u3 at hQ t1 t2 hcm hcf
        obtain ⟨m1, m2, m3⟩ := hcm
        simp (disch := first | exact ev_ok_i _ | exact ev_ok_r _ | exact ev_ok_n | omega | assumption | decide) only [e_Re_disjunction_40, e_Re_disjunction_41, ev_rm_n, ev_rm_i, ev_rm_r, ev_rm_l, ev_ok_n, ev_ok_i, ev_ok_r, Option.toList_some, Option.toList_none, List.cons_append, List.nil_append, true_and, and_true, true_or, or_true, reduceIte, Nat.reduceEqDiff, if_true, if_false, nI_1]
        rw [e_Re_disjunction_44]
        by_cases hcz : pF u3.2 = 0
        · rw [if_neg (fun z => z hcz)] at hQ
          obtain ⟨n1, n2, n3⟩ := m3 hcz
          have w6 := m1.2.2.1
          rw [t2 hcz]
          exact ihB 2 u3.2 u3.1 (i + 1) τ4 (d + 12) _ Q m1 hcz (by decide) (by decide) n1 (by omega) (by rw [n2, w2]; exact he) (by omega) t1 (fun τ5 u4 y1 y2 y3 => hQ τ5 u4 y1 y2 (cl_ke_tr k3 (cl_ke_tr t3 y3)))
        · rw [if_pos hcz] at hQ
          exact c_end2 (e := d + 10) (cl_P_f6 t1 hcz hcf) (hQ τ4 u2 t1 (fun z => absurd z hcz) (cl_ke_tr k3 t3))
      · rw [if_pos hz] at hQ
        have x6 := cl_P_f6 q1 hz hrf
        simp (disch := first | exact ev_ok_i _ | exact ev_ok_r _ | exact ev_ok_n | omega | assumption | decide) only [e_Re_disjunction_37, ev_rm_n, ev_rm_i, ev_rm_r, ev_rm_l, ev_ok_n, ev_ok_i, ev_ok_r, Option.toList_some, Option.toList_none, List.cons_append, List.nil_append, true_and, and_true, true_or, or_true, reduceIte, Nat.reduceEqDiff, if_true, if_false, cg_Dp_rc, cg_Dp_text, cg_Dp_circuit, cg_Dp_reader, cg_Dp_current, cg_Dp_working, cg_Dp_saturator, cg_Dp_table, cg_Te_rc, cg_Te_bytes, cg_Te_length, cp_Te_length, cg_Ci_rc, cg_Ci_kinds, cg_Ci_firsts, cg_Ci_seconds, cg_Ci_inputVariables, cg_Ci_names, cg_Ci_nameLengths, cg_Ci_size, cp_Ci_size, cg_Ci_inputs, cp_Ci_inputs, cg_Re_rc, cg_Re_text, cg_Re_circuit, cg_Re_token, cp_Re_token, cg_Re_start, cp_Re_start, cg_Re_next, cp_Re_next, cg_Re_open, cp_Re_open, cg_Re_fault, cp_Re_fault, cg_Re_faultPlace, cp_Re_faultPlace, cg_Sa_rc, cg_Sa_circuit, cg_Sa_before, cg_Sa_trueBranches, cg_Sa_falseBranches, cg_Sa_tallies, cg_Sa_mostSteps, cp_Sa_mostSteps, cg_Sa_spent, cp_Sa_spent, cg_Ta_rc, cg_Ta_circuit, cg_Ta_words, cr_kinds, cw_kinds, cr_firsts, cw_firsts, cr_seconds, cw_seconds, cr_inputVariables, cw_inputVariables, cr_nameLengths, cw_nameLengths, cr_tallies, cw_tallies, cr_bytes, cw_bytes, cr_words, cw_words, cl_tallies, cr_names, cr_trueB, cr_falseB, cr_name, cw_name, cq_rc, cq_st, cq_size, cq_classes, cq_contradiction, cqp_size, cqp_classes, cqp_contradiction, cq_rd, cq_wr, cq_copy, cl_s_1, cl_s_2, cl_ar_1, cl_ar_2, cl_w_1, cl_w_2, c_combineF]
        simp (disch := first | exact ev_ok_i _ | exact ev_ok_r _ | exact ev_ok_n | omega | assumption | decide) only [e_Re_disjunction_40, e_Re_disjunction_41, ev_rm_n, ev_rm_i, ev_rm_r, ev_rm_l, ev_ok_n, ev_ok_i, ev_ok_r, Option.toList_some, Option.toList_none, List.cons_append, List.nil_append, true_and, and_true, true_or, or_true, reduceIte, Nat.reduceEqDiff, if_true, if_false, nI_1]
        rw [e_Re_disjunction_44]
        exact c_end2 (e := d + 10) x6 (hQ τ3 _ q1 (fun z => absurd z hz) k3)
    · have hk : ¬ cs_k (tK x s) = 10 := fun z => ht ((cs_k_inj kd (by unfold cs_kd; simp)).mp (z.trans (by decide : 10 = cs_k 124)))
      rw [if_neg ht] at hQ
      have hu0 : ¬ u0 = 10 := fun z => hk (hu.mp z).2
      simp (disch := first | exact ev_ok_i _ | exact ev_ok_r _ | exact ev_ok_n | omega | assumption | decide) only [e_Re_disjunction_18, e_Re_disjunction_20, e_Re_disjunction_47, e_Re_disjunction_48, ev_rm_n, ev_rm_i, ev_rm_r, ev_rm_l, ev_ok_n, ev_ok_i, ev_ok_r, Option.toList_some, Option.toList_none, List.cons_append, List.nil_append, true_and, and_true, true_or, or_true, reduceIte, Nat.reduceEqDiff, if_true, if_false, hu0, not_false_eq_true, if_true]
      exact hQ τ2 _ p1 (fun _ => rfl) k1
  · rw [if_pos hl] at hQ
    have hu0 : ¬ u0 = 10 := fun z => hl (hu.mp z).1
    simp (disch := first | exact ev_ok_i _ | exact ev_ok_r _ | exact ev_ok_n | omega | assumption | decide) only [e_Re_disjunction_18, e_Re_disjunction_20, e_Re_disjunction_47, e_Re_disjunction_48, ev_rm_n, ev_rm_i, ev_rm_r, ev_rm_l, ev_ok_n, ev_ok_i, ev_ok_r, Option.toList_some, Option.toList_none, List.cons_append, List.nil_append, true_and, and_true, true_or, or_true, reduceIte, Nat.reduceEqDiff, if_true, if_false, hu0, not_false_eq_true, if_true]
    exact hQ τ2 _ p1 (fun z => absurd z hl) k1
theorem c_PA2 (ihA : cl_PA X B g x n0 f) (ihB : cl_PB X B g x n0 f) {s : sp_P} {e : Nat} (hok : sp_pok x n0 s) (h0 : pF s = 0) (hf : 8 * (x.2 - s.1) + 7 - 2 ≤ f + 1) (he : 6 * (40 - pO s) + (5 - 2) + 12 ≤ e) (hP : cl_P τ x s) (hQ : ∀ τ2 u, cl_P τ2 x (sp_pr x (f + 1) 2 none s).2 → (pF (sp_pr x (f + 1) 2 none s).2 = 0 → u = nI (sp_pr x (f + 1) 2 none s).1) → cl_ke cl_JR τ τ2 → Q (some (.int u)) (cl_put B τ2 g)) : ev_C X e m_Re_disjunction [.ref (B + 34)] (cl_put B τ g) Q := by
  obtain ⟨d, rfl⟩ : ∃ d, e = d + 12 := ⟨e - 12, by omega⟩
  show ev_R X (d + 12) m_Re_disjunction 0 [some (.ref (B + 34)), none, none, none] [] (cl_put B τ g) Q
  have hpos := hok.2.2.1
  rw [sp_pr, if_neg (by decide), show sp_pr x f (2 + 1) none = sp_pr x f 3 none from rfl] at hQ
  simp (disch := first | exact ev_ok_i _ | exact ev_ok_r _ | exact ev_ok_n | omega | assumption | decide) only [e_Re_disjunction_0, e_Re_disjunction_1, ev_rm_n, ev_rm_i, ev_rm_r, ev_rm_l, ev_ok_n, ev_ok_i, ev_ok_r, Option.toList_some, Option.toList_none, List.cons_append, List.nil_append, true_and, and_true, true_or, or_true, reduceIte, Nat.reduceEqDiff, if_true, if_false, cg_Dp_rc, cg_Dp_text, cg_Dp_circuit, cg_Dp_reader, cg_Dp_current, cg_Dp_working, cg_Dp_saturator, cg_Dp_table, cg_Te_rc, cg_Te_bytes, cg_Te_length, cp_Te_length, cg_Ci_rc, cg_Ci_kinds, cg_Ci_firsts, cg_Ci_seconds, cg_Ci_inputVariables, cg_Ci_names, cg_Ci_nameLengths, cg_Ci_size, cp_Ci_size, cg_Ci_inputs, cp_Ci_inputs, cg_Re_rc, cg_Re_text, cg_Re_circuit, cg_Re_token, cp_Re_token, cg_Re_start, cp_Re_start, cg_Re_next, cp_Re_next, cg_Re_open, cp_Re_open, cg_Re_fault, cp_Re_fault, cg_Re_faultPlace, cp_Re_faultPlace, cg_Sa_rc, cg_Sa_circuit, cg_Sa_before, cg_Sa_trueBranches, cg_Sa_falseBranches, cg_Sa_tallies, cg_Sa_mostSteps, cp_Sa_mostSteps, cg_Sa_spent, cp_Sa_spent, cg_Ta_rc, cg_Ta_circuit, cg_Ta_words, cr_kinds, cw_kinds, cr_firsts, cw_firsts, cr_seconds, cw_seconds, cr_inputVariables, cw_inputVariables, cr_nameLengths, cw_nameLengths, cr_tallies, cw_tallies, cr_bytes, cw_bytes, cr_words, cw_words, cl_tallies, cr_names, cr_trueB, cr_falseB, cr_name, cw_name, cq_rc, cq_st, cq_size, cq_classes, cq_contradiction, cqp_size, cqp_classes, cqp_contradiction, cq_rd, cq_wr, cq_copy, cl_s_1, cl_s_2, cl_ar_1, cl_ar_2, cl_w_1, cl_w_2]
  refine ihA 3 s τ (d + 11) _ hok h0 (by decide) (by omega) (by omega) hP (fun τ3 u q1 q2 q3 => ?_)
  have hr := sp_pr_ok x n0 f 3 none s hok h0 (by decide) (fun _ => by omega) (fun v hv => by cases hv)
  have hrf : sp_fl (sp_pr x f 3 none s).2 := sp_pr_fl f 3 none s (sp_fl_0 h0)
  generalize sp_pr x f 3 none s = r at hQ q1 q2 hr hrf
  obtain ⟨r1, r2, r3⟩ := hr
  have e0 : (0 : Int32) = nI 0 := rfl
  simp (disch := first | exact ev_ok_i _ | exact ev_ok_r _ | exact ev_ok_n | omega | assumption | decide) only [e_Re_disjunction_4, e_Re_disjunction_5, e_Re_disjunction_6, ev_rm_n, ev_rm_i, ev_rm_r, ev_rm_l, ev_ok_n, ev_ok_i, ev_ok_r, Option.toList_some, Option.toList_none, List.cons_append, List.nil_append, true_and, and_true, true_or, or_true, reduceIte, Nat.reduceEqDiff, if_true, if_false]
  by_cases hz : pF r.2 = 0
  · rw [if_neg (fun z => z hz)] at hQ
    obtain ⟨w1, w2, w3, w4⟩ := r3 hz
    have w5 := w4 rfl
    have w6 := r1.2.2.1
    rw [q2 hz]
    exact ihB 2 r.2 r.1 0 τ3 (d + 12) none Q r1 hz (by decide) (by decide) w1 (by omega) (by rw [w2]; exact he) (by omega) q1 (fun τ5 u4 y1 y2 y3 => hQ τ5 u4 y1 y2 (cl_ke_tr q3 y3))
  · rw [if_pos hz] at hQ
    exact c_end2 (i := 0) (e := d + 10) (cl_P_f6 q1 hz hrf) (hQ τ3 u q1 (fun z => absurd z hz) q3)
theorem c_end3 {i e : Nat} {u : Int32} {l3 : Option Value} (h : ¬ τ.1 34 6 = 0) (hQ : Q (some (.int u)) (cl_put B τ g)) : ev_R X (e + 2) m_Re_difference 7 [some (.ref (B + 34)), some (.int u), some (.int (nI i)), l3] [] (cl_put B τ g) Q := by
  have nz : ¬ (0 : Int32) = 9 := by decide
  simp (disch := first | exact ev_ok_i _ | exact ev_ok_r _ | exact ev_ok_n | omega | assumption | decide) only [e_Re_difference_7, e_Re_difference_8, e_Re_difference_11, e_Re_difference_14, e_Re_difference_15, e_Re_difference_18, e_Re_difference_20, e_Re_difference_47, e_Re_difference_48, ev_rm_n, ev_rm_i, ev_rm_r, ev_rm_l, ev_ok_n, ev_ok_i, ev_ok_r, Option.toList_some, Option.toList_none, List.cons_append, List.nil_append, true_and, and_true, true_or, or_true, reduceIte, Nat.reduceEqDiff, if_true, if_false, cg_Dp_rc, cg_Dp_text, cg_Dp_circuit, cg_Dp_reader, cg_Dp_current, cg_Dp_working, cg_Dp_saturator, cg_Dp_table, cg_Te_rc, cg_Te_bytes, cg_Te_length, cp_Te_length, cg_Ci_rc, cg_Ci_kinds, cg_Ci_firsts, cg_Ci_seconds, cg_Ci_inputVariables, cg_Ci_names, cg_Ci_nameLengths, cg_Ci_size, cp_Ci_size, cg_Ci_inputs, cp_Ci_inputs, cg_Re_rc, cg_Re_text, cg_Re_circuit, cg_Re_token, cp_Re_token, cg_Re_start, cp_Re_start, cg_Re_next, cp_Re_next, cg_Re_open, cp_Re_open, cg_Re_fault, cp_Re_fault, cg_Re_faultPlace, cp_Re_faultPlace, cg_Sa_rc, cg_Sa_circuit, cg_Sa_before, cg_Sa_trueBranches, cg_Sa_falseBranches, cg_Sa_tallies, cg_Sa_mostSteps, cp_Sa_mostSteps, cg_Sa_spent, cp_Sa_spent, cg_Ta_rc, cg_Ta_circuit, cg_Ta_words, cr_kinds, cw_kinds, cr_firsts, cw_firsts, cr_seconds, cw_seconds, cr_inputVariables, cw_inputVariables, cr_nameLengths, cw_nameLengths, cr_tallies, cw_tallies, cr_bytes, cw_bytes, cr_words, cw_words, cl_tallies, cr_names, cr_trueB, cr_falseB, cr_name, cw_name, cq_rc, cq_st, cq_size, cq_classes, cq_contradiction, cqp_size, cqp_classes, cqp_contradiction, cq_rd, cq_wr, cq_copy, cl_s_1, cl_s_2, cl_ar_1, cl_ar_2, cl_w_1, cl_w_2, c_reLookF, nz, not_false_eq_true, if_true, ite_self]
  exact hQ
theorem c_PB3 (ihA : cl_PA X B g x n0 f) (ihB : cl_PB X B g x n0 f) (hX : cl_TX X B g) {s : sp_P} {v i e : Nat} {l3 : Option Value} (hok : sp_pok x n0 s) (h0 : pF s = 0) (hv : v < 2 * cN (pC s)) (hf : 8 * (x.2 - s.1) + 7 ≤ f + 1) (he : 6 * (40 - pO s) + (5 - 3) + 12 ≤ e) (hi : i + 1 ≤ s.1) (hP : cl_P τ x s) (hQ : ∀ τ2 u, cl_P τ2 x (sp_pr x (f + 1) 3 (some v) s).2 → (pF (sp_pr x (f + 1) 3 (some v) s).2 = 0 → u = nI (sp_pr x (f + 1) 3 (some v) s).1) → cl_ke cl_JR τ τ2 → Q (some (.int u)) (cl_put B τ2 g)) : ev_R X e m_Re_difference 7 [some (.ref (B + 34)), some (.int (nI v)), some (.int (nI i)), l3] [] (cl_put B τ g) Q := by
  obtain ⟨d, rfl⟩ : ∃ d, e = d + 12 := ⟨e - 12, by omega⟩
  have hx3 := hok.2.2.2.2
  have hpos := hok.2.2.1
  have hi24 := hok.1.1.2.2
  have c1 : ¬ (3000 : Int32) ≤ nI i := nI_ge (b := 3000) (by omega) (by decide)
  have i10 : ¬ (1 : Int32) = 0 := by decide
  have hfl := sp_fl_0 h0
  have kd : cs_kd (tK x s) := sp_tw_kd x _
  rw [sp_pr] at hQ
  simp (disch := first | exact ev_ok_i _ | exact ev_ok_r _ | exact ev_ok_n | omega | assumption | decide) only [e_Re_difference_7, e_Re_difference_8, e_Re_difference_11, e_Re_difference_14, e_Re_difference_15, ev_rm_n, ev_rm_i, ev_rm_r, ev_rm_l, ev_ok_n, ev_ok_i, ev_ok_r, Option.toList_some, Option.toList_none, List.cons_append, List.nil_append, true_and, and_true, true_or, or_true, reduceIte, Nat.reduceEqDiff, if_true, if_false, cg_Dp_rc, cg_Dp_text, cg_Dp_circuit, cg_Dp_reader, cg_Dp_current, cg_Dp_working, cg_Dp_saturator, cg_Dp_table, cg_Te_rc, cg_Te_bytes, cg_Te_length, cp_Te_length, cg_Ci_rc, cg_Ci_kinds, cg_Ci_firsts, cg_Ci_seconds, cg_Ci_inputVariables, cg_Ci_names, cg_Ci_nameLengths, cg_Ci_size, cp_Ci_size, cg_Ci_inputs, cp_Ci_inputs, cg_Re_rc, cg_Re_text, cg_Re_circuit, cg_Re_token, cp_Re_token, cg_Re_start, cp_Re_start, cg_Re_next, cp_Re_next, cg_Re_open, cp_Re_open, cg_Re_fault, cp_Re_fault, cg_Re_faultPlace, cp_Re_faultPlace, cg_Sa_rc, cg_Sa_circuit, cg_Sa_before, cg_Sa_trueBranches, cg_Sa_falseBranches, cg_Sa_tallies, cg_Sa_mostSteps, cp_Sa_mostSteps, cg_Sa_spent, cp_Sa_spent, cg_Ta_rc, cg_Ta_circuit, cg_Ta_words, cr_kinds, cw_kinds, cr_firsts, cw_firsts, cr_seconds, cw_seconds, cr_inputVariables, cw_inputVariables, cr_nameLengths, cw_nameLengths, cr_tallies, cw_tallies, cr_bytes, cw_bytes, cr_words, cw_words, cl_tallies, cr_names, cr_trueB, cr_falseB, cr_name, cw_name, cq_rc, cq_st, cq_size, cq_classes, cq_contradiction, cqp_size, cqp_classes, cqp_contradiction, cq_rd, cq_wr, cq_copy, cl_s_1, cl_s_2, cl_ar_1, cl_ar_2, cl_w_1, cl_w_2, c1]
  refine c_reSees 9 (W := 9) rfl (d := d + 5) hX hP hok h0 (by decide) (by decide) (fun τ2 u0 hu p1 p2 p3 p4 => ?_)
  have k1 : cl_ke cl_JR τ τ2 := cl_ke_mo p4 (fun i z => cl_J4_R z)
  by_cases hl : pF (sp_look x s) = 0
  · have el := sp_look_e hl
    have hL := p3 hl
    rw [el] at p1 hQ
    rw [if_neg (fun z => z h0), if_neg (by decide), show sp_sgv 3 = 94 from rfl, show sp_pr x f (3 + 1) none = sp_pr x f 4 none from rfl] at hQ
    by_cases ht : tK x s = 94
    · have hk : cs_k (tK x s) = 9 := by rw [ht]; decide
      rw [if_pos ht] at hQ
      have hu1 : u0 = 9 := hu.mpr ⟨hl, hk⟩
      have hm := sp_tok_lt hok (by rw [ht]; decide)
      have hok2 := sp_pass_ok hok
      have hT := cl_P_take hi24 p1 hL h0
      have kT : cl_ke cl_JR τ2 (cl_s τ2 34 2 0) := cl_ke_s (S := cl_JR) τ2 2 0 (by decide)
      simp (disch := first | exact ev_ok_i _ | exact ev_ok_r _ | exact ev_ok_n | omega | assumption | decide) only [e_Re_difference_18, e_Re_difference_20, e_Re_difference_23, e_Re_difference_24, e_Re_difference_27, e_Re_difference_28, e_Re_difference_29, e_Re_difference_31, e_Re_difference_32, e_Re_difference_33, e_Re_difference_34, ev_rm_n, ev_rm_i, ev_rm_r, ev_rm_l, ev_ok_n, ev_ok_i, ev_ok_r, Option.toList_some, Option.toList_none, List.cons_append, List.nil_append, true_and, and_true, true_or, or_true, reduceIte, Nat.reduceEqDiff, if_true, if_false, cg_Dp_rc, cg_Dp_text, cg_Dp_circuit, cg_Dp_reader, cg_Dp_current, cg_Dp_working, cg_Dp_saturator, cg_Dp_table, cg_Te_rc, cg_Te_bytes, cg_Te_length, cp_Te_length, cg_Ci_rc, cg_Ci_kinds, cg_Ci_firsts, cg_Ci_seconds, cg_Ci_inputVariables, cg_Ci_names, cg_Ci_nameLengths, cg_Ci_size, cp_Ci_size, cg_Ci_inputs, cp_Ci_inputs, cg_Re_rc, cg_Re_text, cg_Re_circuit, cg_Re_token, cp_Re_token, cg_Re_start, cp_Re_start, cg_Re_next, cp_Re_next, cg_Re_open, cp_Re_open, cg_Re_fault, cp_Re_fault, cg_Re_faultPlace, cp_Re_faultPlace, cg_Sa_rc, cg_Sa_circuit, cg_Sa_before, cg_Sa_trueBranches, cg_Sa_falseBranches, cg_Sa_tallies, cg_Sa_mostSteps, cp_Sa_mostSteps, cg_Sa_spent, cp_Sa_spent, cg_Ta_rc, cg_Ta_circuit, cg_Ta_words, cr_kinds, cw_kinds, cr_firsts, cw_firsts, cr_seconds, cw_seconds, cr_inputVariables, cw_inputVariables, cr_nameLengths, cw_nameLengths, cr_tallies, cw_tallies, cr_bytes, cw_bytes, cr_words, cw_words, cl_tallies, cr_names, cr_trueB, cr_falseB, cr_name, cw_name, cq_rc, cq_st, cq_size, cq_classes, cq_contradiction, cqp_size, cqp_classes, cqp_contradiction, cq_rd, cq_wr, cq_copy, cl_s_1, cl_s_2, cl_ar_1, cl_ar_2, cl_w_1, cl_w_2, hu1, not_true_eq_false, if_false, c_take2, hL.2.1]
      have htl : tS x s + tZ x s ≤ x.2 := (sp_tw_sz (sp_ts_le hok.2.2.1).2).1
      refine ihA 4 (sp_pass x s) _ (d + 11) _ hok2 h0 (by decide) (by show 8 * (x.2 - (tS x s + tZ x s)) + 7 - 4 ≤ f; omega) (by show 6 * (40 - pO s) + (5 - 4) + 12 ≤ d + 11; omega) hT (fun τ3 u q1 q2 q3 => ?_)
      have hr := sp_pr_ok x n0 f 4 none (sp_pass x s) hok2 h0 (by decide) (fun _ => by show 8 * (x.2 - (tS x s + tZ x s)) + 7 - 4 ≤ f; omega) (fun v hv => by cases hv)
      have hrf : sp_fl (sp_pr x f 4 none (sp_pass x s)).2 := sp_pr_fl f 4 none (sp_pass x s) hfl
      have k3 : cl_ke cl_JR τ τ3 := cl_ke_tr k1 (cl_ke_tr kT q3)
      generalize sp_pr x f 4 none (sp_pass x s) = r at hQ q1 q2 hr hrf
      obtain ⟨r1, r2, r3⟩ := hr
      have r2' : cN (pC s) ≤ cN (pC r.2) := r2
      by_cases hz : pF r.2 = 0
      · obtain ⟨w1, w2, w3, w4⟩ := r3 hz
        have w5 : tS x s + tZ x s ≤ r.2.1 := w3
        rw [if_neg (fun z => z hz)] at hQ
        rw [q2 hz]
        simp (disch := first | exact ev_ok_i _ | exact ev_ok_r _ | exact ev_ok_n | omega | assumption | decide) only [ev_rm_n, ev_rm_i, ev_rm_r, ev_rm_l, ev_ok_n, ev_ok_i, ev_ok_r, Option.toList_some, Option.toList_none, List.cons_append, List.nil_append, true_and, and_true, true_or, or_true, reduceIte, Nat.reduceEqDiff, if_true, if_false]
        rw [e_Re_difference_37]
        simp (disch := first | exact ev_ok_i _ | exact ev_ok_r _ | exact ev_ok_n | omega | assumption | decide) only [ev_rm_n, ev_rm_i, ev_rm_r, ev_rm_l, ev_ok_n, ev_ok_i, ev_ok_r, Option.toList_some, Option.toList_none, List.cons_append, List.nil_append, true_and, and_true, true_or, or_true, reduceIte, Nat.reduceEqDiff, if_true, if_false, cg_Dp_rc, cg_Dp_text, cg_Dp_circuit, cg_Dp_reader, cg_Dp_current, cg_Dp_working, cg_Dp_saturator, cg_Dp_table, cg_Te_rc, cg_Te_bytes, cg_Te_length, cp_Te_length, cg_Ci_rc, cg_Ci_kinds, cg_Ci_firsts, cg_Ci_seconds, cg_Ci_inputVariables, cg_Ci_names, cg_Ci_nameLengths, cg_Ci_size, cp_Ci_size, cg_Ci_inputs, cp_Ci_inputs, cg_Re_rc, cg_Re_text, cg_Re_circuit, cg_Re_token, cp_Re_token, cg_Re_start, cp_Re_start, cg_Re_next, cp_Re_next, cg_Re_open, cp_Re_open, cg_Re_fault, cp_Re_fault, cg_Re_faultPlace, cp_Re_faultPlace, cg_Sa_rc, cg_Sa_circuit, cg_Sa_before, cg_Sa_trueBranches, cg_Sa_falseBranches, cg_Sa_tallies, cg_Sa_mostSteps, cp_Sa_mostSteps, cg_Sa_spent, cp_Sa_spent, cg_Ta_rc, cg_Ta_circuit, cg_Ta_words, cr_kinds, cw_kinds, cr_firsts, cw_firsts, cr_seconds, cw_seconds, cr_inputVariables, cw_inputVariables, cr_nameLengths, cw_nameLengths, cr_tallies, cw_tallies, cr_bytes, cw_bytes, cr_words, cw_words, cl_tallies, cr_names, cr_trueB, cr_falseB, cr_name, cw_name, cq_rc, cq_st, cq_size, cq_classes, cq_contradiction, cqp_size, cqp_classes, cqp_contradiction, cq_rd, cq_wr, cq_copy, cl_s_1, cl_s_2, cl_ar_1, cl_ar_2, cl_w_1, cl_w_2]
        refine c_combine (lv := 3) (d := d + 8) (by decide) q1 r1 hz (by omega) w1 (fun τ4 u2 t1 t2 t3 => ?_)
        have hcm := sp_cmb_ok (lv := 3) (v := v) (w := r.1) (a := tS x s) r1 hz (by omega) w1
        have hcf := sp_cmb_fl hrf 3 v r.1 (tS x s)
        generalize sp_cmb 3 v r.1 (tS x s) r.2 = u3 at hQ t1 t2 hcm hcf
        obtain ⟨m1, m2, m3⟩ := hcm
        simp (disch := first | exact ev_ok_i _ | exact ev_ok_r _ | exact ev_ok_n | omega | assumption | decide) only [e_Re_difference_40, e_Re_difference_41, ev_rm_n, ev_rm_i, ev_rm_r, ev_rm_l, ev_ok_n, ev_ok_i, ev_ok_r, Option.toList_some, Option.toList_none, List.cons_append, List.nil_append, true_and, and_true, true_or, or_true, reduceIte, Nat.reduceEqDiff, if_true, if_false, nI_1]
        rw [e_Re_difference_44]
        by_cases hcz : pF u3.2 = 0
        · rw [if_neg (fun z => z hcz)] at hQ
          obtain ⟨n1, n2, n3⟩ := m3 hcz
          have w6 := m1.2.2.1
          rw [t2 hcz]
          exact ihB 3 u3.2 u3.1 (i + 1) τ4 (d + 12) _ Q m1 hcz (by decide) (by decide) n1 (by omega) (by rw [n2, w2]; exact he) (by omega) t1 (fun τ5 u4 y1 y2 y3 => hQ τ5 u4 y1 y2 (cl_ke_tr k3 (cl_ke_tr t3 y3)))
        · rw [if_pos hcz] at hQ
          exact c_end3 (e := d + 10) (cl_P_f6 t1 hcz hcf) (hQ τ4 u2 t1 (fun z => absurd z hcz) (cl_ke_tr k3 t3))
      · rw [if_pos hz] at hQ
        have x6 := cl_P_f6 q1 hz hrf
        simp (disch := first | exact ev_ok_i _ | exact ev_ok_r _ | exact ev_ok_n | omega | assumption | decide) only [e_Re_difference_37, ev_rm_n, ev_rm_i, ev_rm_r, ev_rm_l, ev_ok_n, ev_ok_i, ev_ok_r, Option.toList_some, Option.toList_none, List.cons_append, List.nil_append, true_and, and_true, true_or, or_true, reduceIte, Nat.reduceEqDiff, if_true, if_false, cg_Dp_rc, cg_Dp_text, cg_Dp_circuit, cg_Dp_reader, cg_Dp_current, cg_Dp_working, cg_Dp_saturator, cg_Dp_table, cg_Te_rc, cg_Te_bytes, cg_Te_length, cp_Te_length, cg_Ci_rc, cg_Ci_kinds, cg_Ci_firsts, cg_Ci_seconds, cg_Ci_inputVariables, cg_Ci_names, cg_Ci_nameLengths, cg_Ci_size, cp_Ci_size, cg_Ci_inputs, cp_Ci_inputs, cg_Re_rc, cg_Re_text, cg_Re_circuit, cg_Re_token, cp_Re_token, cg_Re_start, cp_Re_start, cg_Re_next, cp_Re_next, cg_Re_open, cp_Re_open, cg_Re_fault, cp_Re_fault, cg_Re_faultPlace, cp_Re_faultPlace, cg_Sa_rc, cg_Sa_circuit, cg_Sa_before, cg_Sa_trueBranches, cg_Sa_falseBranches, cg_Sa_tallies, cg_Sa_mostSteps, cp_Sa_mostSteps, cg_Sa_spent, cp_Sa_spent, cg_Ta_rc, cg_Ta_circuit, cg_Ta_words, cr_kinds, cw_kinds, cr_firsts, cw_firsts, cr_seconds, cw_seconds, cr_inputVariables, cw_inputVariables, cr_nameLengths, cw_nameLengths, cr_tallies, cw_tallies, cr_bytes, cw_bytes, cr_words, cw_words, cl_tallies, cr_names, cr_trueB, cr_falseB, cr_name, cw_name, cq_rc, cq_st, cq_size, cq_classes, cq_contradiction, cqp_size, cqp_classes, cqp_contradiction, cq_rd, cq_wr, cq_copy, cl_s_1, cl_s_2, cl_ar_1, cl_ar_2, cl_w_1, cl_w_2, c_combineF]
        simp (disch := first | exact ev_ok_i _ | exact ev_ok_r _ | exact ev_ok_n | omega | assumption | decide) only [e_Re_difference_40, e_Re_difference_41, ev_rm_n, ev_rm_i, ev_rm_r, ev_rm_l, ev_ok_n, ev_ok_i, ev_ok_r, Option.toList_some, Option.toList_none, List.cons_append, List.nil_append, true_and, and_true, true_or, or_true, reduceIte, Nat.reduceEqDiff, if_true, if_false, nI_1]
        rw [e_Re_difference_44]
        exact c_end3 (e := d + 10) x6 (hQ τ3 _ q1 (fun z => absurd z hz) k3)
    · have hk : ¬ cs_k (tK x s) = 9 := fun z => ht ((cs_k_inj kd (by unfold cs_kd; simp)).mp (z.trans (by decide : 9 = cs_k 94)))
      rw [if_neg ht] at hQ
      have hu0 : ¬ u0 = 9 := fun z => hk (hu.mp z).2
      simp (disch := first | exact ev_ok_i _ | exact ev_ok_r _ | exact ev_ok_n | omega | assumption | decide) only [e_Re_difference_18, e_Re_difference_20, e_Re_difference_47, e_Re_difference_48, ev_rm_n, ev_rm_i, ev_rm_r, ev_rm_l, ev_ok_n, ev_ok_i, ev_ok_r, Option.toList_some, Option.toList_none, List.cons_append, List.nil_append, true_and, and_true, true_or, or_true, reduceIte, Nat.reduceEqDiff, if_true, if_false, hu0, not_false_eq_true, if_true]
      exact hQ τ2 _ p1 (fun _ => rfl) k1
  · rw [if_pos hl] at hQ
    have hu0 : ¬ u0 = 9 := fun z => hl (hu.mp z).1
    simp (disch := first | exact ev_ok_i _ | exact ev_ok_r _ | exact ev_ok_n | omega | assumption | decide) only [e_Re_difference_18, e_Re_difference_20, e_Re_difference_47, e_Re_difference_48, ev_rm_n, ev_rm_i, ev_rm_r, ev_rm_l, ev_ok_n, ev_ok_i, ev_ok_r, Option.toList_some, Option.toList_none, List.cons_append, List.nil_append, true_and, and_true, true_or, or_true, reduceIte, Nat.reduceEqDiff, if_true, if_false, hu0, not_false_eq_true, if_true]
    exact hQ τ2 _ p1 (fun z => absurd z hl) k1
theorem c_PA3 (ihA : cl_PA X B g x n0 f) (ihB : cl_PB X B g x n0 f) {s : sp_P} {e : Nat} (hok : sp_pok x n0 s) (h0 : pF s = 0) (hf : 8 * (x.2 - s.1) + 7 - 3 ≤ f + 1) (he : 6 * (40 - pO s) + (5 - 3) + 12 ≤ e) (hP : cl_P τ x s) (hQ : ∀ τ2 u, cl_P τ2 x (sp_pr x (f + 1) 3 none s).2 → (pF (sp_pr x (f + 1) 3 none s).2 = 0 → u = nI (sp_pr x (f + 1) 3 none s).1) → cl_ke cl_JR τ τ2 → Q (some (.int u)) (cl_put B τ2 g)) : ev_C X e m_Re_difference [.ref (B + 34)] (cl_put B τ g) Q := by
  obtain ⟨d, rfl⟩ : ∃ d, e = d + 12 := ⟨e - 12, by omega⟩
  show ev_R X (d + 12) m_Re_difference 0 [some (.ref (B + 34)), none, none, none] [] (cl_put B τ g) Q
  have hpos := hok.2.2.1
  rw [sp_pr, if_neg (by decide), show sp_pr x f (3 + 1) none = sp_pr x f 4 none from rfl] at hQ
  simp (disch := first | exact ev_ok_i _ | exact ev_ok_r _ | exact ev_ok_n | omega | assumption | decide) only [e_Re_difference_0, e_Re_difference_1, ev_rm_n, ev_rm_i, ev_rm_r, ev_rm_l, ev_ok_n, ev_ok_i, ev_ok_r, Option.toList_some, Option.toList_none, List.cons_append, List.nil_append, true_and, and_true, true_or, or_true, reduceIte, Nat.reduceEqDiff, if_true, if_false, cg_Dp_rc, cg_Dp_text, cg_Dp_circuit, cg_Dp_reader, cg_Dp_current, cg_Dp_working, cg_Dp_saturator, cg_Dp_table, cg_Te_rc, cg_Te_bytes, cg_Te_length, cp_Te_length, cg_Ci_rc, cg_Ci_kinds, cg_Ci_firsts, cg_Ci_seconds, cg_Ci_inputVariables, cg_Ci_names, cg_Ci_nameLengths, cg_Ci_size, cp_Ci_size, cg_Ci_inputs, cp_Ci_inputs, cg_Re_rc, cg_Re_text, cg_Re_circuit, cg_Re_token, cp_Re_token, cg_Re_start, cp_Re_start, cg_Re_next, cp_Re_next, cg_Re_open, cp_Re_open, cg_Re_fault, cp_Re_fault, cg_Re_faultPlace, cp_Re_faultPlace, cg_Sa_rc, cg_Sa_circuit, cg_Sa_before, cg_Sa_trueBranches, cg_Sa_falseBranches, cg_Sa_tallies, cg_Sa_mostSteps, cp_Sa_mostSteps, cg_Sa_spent, cp_Sa_spent, cg_Ta_rc, cg_Ta_circuit, cg_Ta_words, cr_kinds, cw_kinds, cr_firsts, cw_firsts, cr_seconds, cw_seconds, cr_inputVariables, cw_inputVariables, cr_nameLengths, cw_nameLengths, cr_tallies, cw_tallies, cr_bytes, cw_bytes, cr_words, cw_words, cl_tallies, cr_names, cr_trueB, cr_falseB, cr_name, cw_name, cq_rc, cq_st, cq_size, cq_classes, cq_contradiction, cqp_size, cqp_classes, cqp_contradiction, cq_rd, cq_wr, cq_copy, cl_s_1, cl_s_2, cl_ar_1, cl_ar_2, cl_w_1, cl_w_2]
  refine ihA 4 s τ (d + 11) _ hok h0 (by decide) (by omega) (by omega) hP (fun τ3 u q1 q2 q3 => ?_)
  have hr := sp_pr_ok x n0 f 4 none s hok h0 (by decide) (fun _ => by omega) (fun v hv => by cases hv)
  have hrf : sp_fl (sp_pr x f 4 none s).2 := sp_pr_fl f 4 none s (sp_fl_0 h0)
  generalize sp_pr x f 4 none s = r at hQ q1 q2 hr hrf
  obtain ⟨r1, r2, r3⟩ := hr
  have e0 : (0 : Int32) = nI 0 := rfl
  simp (disch := first | exact ev_ok_i _ | exact ev_ok_r _ | exact ev_ok_n | omega | assumption | decide) only [e_Re_difference_4, e_Re_difference_5, e_Re_difference_6, ev_rm_n, ev_rm_i, ev_rm_r, ev_rm_l, ev_ok_n, ev_ok_i, ev_ok_r, Option.toList_some, Option.toList_none, List.cons_append, List.nil_append, true_and, and_true, true_or, or_true, reduceIte, Nat.reduceEqDiff, if_true, if_false]
  by_cases hz : pF r.2 = 0
  · rw [if_neg (fun z => z hz)] at hQ
    obtain ⟨w1, w2, w3, w4⟩ := r3 hz
    have w5 := w4 rfl
    have w6 := r1.2.2.1
    rw [q2 hz]
    exact ihB 3 r.2 r.1 0 τ3 (d + 12) none Q r1 hz (by decide) (by decide) w1 (by omega) (by rw [w2]; exact he) (by omega) q1 (fun τ5 u4 y1 y2 y3 => hQ τ5 u4 y1 y2 (cl_ke_tr q3 y3))
  · rw [if_pos hz] at hQ
    exact c_end3 (i := 0) (e := d + 10) (cl_P_f6 q1 hz hrf) (hQ τ3 u q1 (fun z => absurd z hz) q3)
theorem c_end4 {i e : Nat} {u : Int32} {l3 : Option Value} (h : ¬ τ.1 34 6 = 0) (hQ : Q (some (.int u)) (cl_put B τ g)) : ev_R X (e + 2) m_Re_conjunction 7 [some (.ref (B + 34)), some (.int u), some (.int (nI i)), l3] [] (cl_put B τ g) Q := by
  have nz : ¬ (0 : Int32) = 8 := by decide
  simp (disch := first | exact ev_ok_i _ | exact ev_ok_r _ | exact ev_ok_n | omega | assumption | decide) only [e_Re_conjunction_7, e_Re_conjunction_8, e_Re_conjunction_11, e_Re_conjunction_14, e_Re_conjunction_15, e_Re_conjunction_18, e_Re_conjunction_20, e_Re_conjunction_47, e_Re_conjunction_48, ev_rm_n, ev_rm_i, ev_rm_r, ev_rm_l, ev_ok_n, ev_ok_i, ev_ok_r, Option.toList_some, Option.toList_none, List.cons_append, List.nil_append, true_and, and_true, true_or, or_true, reduceIte, Nat.reduceEqDiff, if_true, if_false, cg_Dp_rc, cg_Dp_text, cg_Dp_circuit, cg_Dp_reader, cg_Dp_current, cg_Dp_working, cg_Dp_saturator, cg_Dp_table, cg_Te_rc, cg_Te_bytes, cg_Te_length, cp_Te_length, cg_Ci_rc, cg_Ci_kinds, cg_Ci_firsts, cg_Ci_seconds, cg_Ci_inputVariables, cg_Ci_names, cg_Ci_nameLengths, cg_Ci_size, cp_Ci_size, cg_Ci_inputs, cp_Ci_inputs, cg_Re_rc, cg_Re_text, cg_Re_circuit, cg_Re_token, cp_Re_token, cg_Re_start, cp_Re_start, cg_Re_next, cp_Re_next, cg_Re_open, cp_Re_open, cg_Re_fault, cp_Re_fault, cg_Re_faultPlace, cp_Re_faultPlace, cg_Sa_rc, cg_Sa_circuit, cg_Sa_before, cg_Sa_trueBranches, cg_Sa_falseBranches, cg_Sa_tallies, cg_Sa_mostSteps, cp_Sa_mostSteps, cg_Sa_spent, cp_Sa_spent, cg_Ta_rc, cg_Ta_circuit, cg_Ta_words, cr_kinds, cw_kinds, cr_firsts, cw_firsts, cr_seconds, cw_seconds, cr_inputVariables, cw_inputVariables, cr_nameLengths, cw_nameLengths, cr_tallies, cw_tallies, cr_bytes, cw_bytes, cr_words, cw_words, cl_tallies, cr_names, cr_trueB, cr_falseB, cr_name, cw_name, cq_rc, cq_st, cq_size, cq_classes, cq_contradiction, cqp_size, cqp_classes, cqp_contradiction, cq_rd, cq_wr, cq_copy, cl_s_1, cl_s_2, cl_ar_1, cl_ar_2, cl_w_1, cl_w_2, c_reLookF, nz, not_false_eq_true, if_true, ite_self]
  exact hQ
theorem c_PB4 (ihA : cl_PA X B g x n0 f) (ihB : cl_PB X B g x n0 f) (hX : cl_TX X B g) {s : sp_P} {v i e : Nat} {l3 : Option Value} (hok : sp_pok x n0 s) (h0 : pF s = 0) (hv : v < 2 * cN (pC s)) (hf : 8 * (x.2 - s.1) + 7 ≤ f + 1) (he : 6 * (40 - pO s) + (5 - 4) + 12 ≤ e) (hi : i + 1 ≤ s.1) (hP : cl_P τ x s) (hQ : ∀ τ2 u, cl_P τ2 x (sp_pr x (f + 1) 4 (some v) s).2 → (pF (sp_pr x (f + 1) 4 (some v) s).2 = 0 → u = nI (sp_pr x (f + 1) 4 (some v) s).1) → cl_ke cl_JR τ τ2 → Q (some (.int u)) (cl_put B τ2 g)) : ev_R X e m_Re_conjunction 7 [some (.ref (B + 34)), some (.int (nI v)), some (.int (nI i)), l3] [] (cl_put B τ g) Q := by
  obtain ⟨d, rfl⟩ : ∃ d, e = d + 12 := ⟨e - 12, by omega⟩
  have hx3 := hok.2.2.2.2
  have hpos := hok.2.2.1
  have hi24 := hok.1.1.2.2
  have c1 : ¬ (3000 : Int32) ≤ nI i := nI_ge (b := 3000) (by omega) (by decide)
  have i10 : ¬ (1 : Int32) = 0 := by decide
  have hfl := sp_fl_0 h0
  have kd : cs_kd (tK x s) := sp_tw_kd x _
  rw [sp_pr] at hQ
  simp (disch := first | exact ev_ok_i _ | exact ev_ok_r _ | exact ev_ok_n | omega | assumption | decide) only [e_Re_conjunction_7, e_Re_conjunction_8, e_Re_conjunction_11, e_Re_conjunction_14, e_Re_conjunction_15, ev_rm_n, ev_rm_i, ev_rm_r, ev_rm_l, ev_ok_n, ev_ok_i, ev_ok_r, Option.toList_some, Option.toList_none, List.cons_append, List.nil_append, true_and, and_true, true_or, or_true, reduceIte, Nat.reduceEqDiff, if_true, if_false, cg_Dp_rc, cg_Dp_text, cg_Dp_circuit, cg_Dp_reader, cg_Dp_current, cg_Dp_working, cg_Dp_saturator, cg_Dp_table, cg_Te_rc, cg_Te_bytes, cg_Te_length, cp_Te_length, cg_Ci_rc, cg_Ci_kinds, cg_Ci_firsts, cg_Ci_seconds, cg_Ci_inputVariables, cg_Ci_names, cg_Ci_nameLengths, cg_Ci_size, cp_Ci_size, cg_Ci_inputs, cp_Ci_inputs, cg_Re_rc, cg_Re_text, cg_Re_circuit, cg_Re_token, cp_Re_token, cg_Re_start, cp_Re_start, cg_Re_next, cp_Re_next, cg_Re_open, cp_Re_open, cg_Re_fault, cp_Re_fault, cg_Re_faultPlace, cp_Re_faultPlace, cg_Sa_rc, cg_Sa_circuit, cg_Sa_before, cg_Sa_trueBranches, cg_Sa_falseBranches, cg_Sa_tallies, cg_Sa_mostSteps, cp_Sa_mostSteps, cg_Sa_spent, cp_Sa_spent, cg_Ta_rc, cg_Ta_circuit, cg_Ta_words, cr_kinds, cw_kinds, cr_firsts, cw_firsts, cr_seconds, cw_seconds, cr_inputVariables, cw_inputVariables, cr_nameLengths, cw_nameLengths, cr_tallies, cw_tallies, cr_bytes, cw_bytes, cr_words, cw_words, cl_tallies, cr_names, cr_trueB, cr_falseB, cr_name, cw_name, cq_rc, cq_st, cq_size, cq_classes, cq_contradiction, cqp_size, cqp_classes, cqp_contradiction, cq_rd, cq_wr, cq_copy, cl_s_1, cl_s_2, cl_ar_1, cl_ar_2, cl_w_1, cl_w_2, c1]
  refine c_reSees 8 (W := 8) rfl (d := d + 5) hX hP hok h0 (by decide) (by decide) (fun τ2 u0 hu p1 p2 p3 p4 => ?_)
  have k1 : cl_ke cl_JR τ τ2 := cl_ke_mo p4 (fun i z => cl_J4_R z)
  by_cases hl : pF (sp_look x s) = 0
  · have el := sp_look_e hl
    have hL := p3 hl
    rw [el] at p1 hQ
    rw [if_neg (fun z => z h0), if_neg (by decide), show sp_sgv 4 = 38 from rfl, show sp_pr x f (4 + 1) none = sp_pr x f 5 none from rfl] at hQ
    by_cases ht : tK x s = 38
    · have hk : cs_k (tK x s) = 8 := by rw [ht]; decide
      rw [if_pos ht] at hQ
      have hu1 : u0 = 8 := hu.mpr ⟨hl, hk⟩
      have hm := sp_tok_lt hok (by rw [ht]; decide)
      have hok2 := sp_pass_ok hok
      have hT := cl_P_take hi24 p1 hL h0
      have kT : cl_ke cl_JR τ2 (cl_s τ2 34 2 0) := cl_ke_s (S := cl_JR) τ2 2 0 (by decide)
      simp (disch := first | exact ev_ok_i _ | exact ev_ok_r _ | exact ev_ok_n | omega | assumption | decide) only [e_Re_conjunction_18, e_Re_conjunction_20, e_Re_conjunction_23, e_Re_conjunction_24, e_Re_conjunction_27, e_Re_conjunction_28, e_Re_conjunction_29, e_Re_conjunction_31, e_Re_conjunction_32, e_Re_conjunction_33, e_Re_conjunction_34, ev_rm_n, ev_rm_i, ev_rm_r, ev_rm_l, ev_ok_n, ev_ok_i, ev_ok_r, Option.toList_some, Option.toList_none, List.cons_append, List.nil_append, true_and, and_true, true_or, or_true, reduceIte, Nat.reduceEqDiff, if_true, if_false, cg_Dp_rc, cg_Dp_text, cg_Dp_circuit, cg_Dp_reader, cg_Dp_current, cg_Dp_working, cg_Dp_saturator, cg_Dp_table, cg_Te_rc, cg_Te_bytes, cg_Te_length, cp_Te_length, cg_Ci_rc, cg_Ci_kinds, cg_Ci_firsts, cg_Ci_seconds, cg_Ci_inputVariables, cg_Ci_names, cg_Ci_nameLengths, cg_Ci_size, cp_Ci_size, cg_Ci_inputs, cp_Ci_inputs, cg_Re_rc, cg_Re_text, cg_Re_circuit, cg_Re_token, cp_Re_token, cg_Re_start, cp_Re_start, cg_Re_next, cp_Re_next, cg_Re_open, cp_Re_open, cg_Re_fault, cp_Re_fault, cg_Re_faultPlace, cp_Re_faultPlace, cg_Sa_rc, cg_Sa_circuit, cg_Sa_before, cg_Sa_trueBranches, cg_Sa_falseBranches, cg_Sa_tallies, cg_Sa_mostSteps, cp_Sa_mostSteps, cg_Sa_spent, cp_Sa_spent, cg_Ta_rc, cg_Ta_circuit, cg_Ta_words, cr_kinds, cw_kinds, cr_firsts, cw_firsts, cr_seconds, cw_seconds, cr_inputVariables, cw_inputVariables, cr_nameLengths, cw_nameLengths, cr_tallies, cw_tallies, cr_bytes, cw_bytes, cr_words, cw_words, cl_tallies, cr_names, cr_trueB, cr_falseB, cr_name, cw_name, cq_rc, cq_st, cq_size, cq_classes, cq_contradiction, cqp_size, cqp_classes, cqp_contradiction, cq_rd, cq_wr, cq_copy, cl_s_1, cl_s_2, cl_ar_1, cl_ar_2, cl_w_1, cl_w_2, hu1, not_true_eq_false, if_false, c_take2, hL.2.1]
      have htl : tS x s + tZ x s ≤ x.2 := (sp_tw_sz (sp_ts_le hok.2.2.1).2).1
      refine ihA 5 (sp_pass x s) _ (d + 11) _ hok2 h0 (by decide) (by show 8 * (x.2 - (tS x s + tZ x s)) + 7 - 5 ≤ f; omega) (by show 6 * (40 - pO s) + (5 - 5) + 12 ≤ d + 11; omega) hT (fun τ3 u q1 q2 q3 => ?_)
      have hr := sp_pr_ok x n0 f 5 none (sp_pass x s) hok2 h0 (by decide) (fun _ => by show 8 * (x.2 - (tS x s + tZ x s)) + 7 - 5 ≤ f; omega) (fun v hv => by cases hv)
      have hrf : sp_fl (sp_pr x f 5 none (sp_pass x s)).2 := sp_pr_fl f 5 none (sp_pass x s) hfl
      have k3 : cl_ke cl_JR τ τ3 := cl_ke_tr k1 (cl_ke_tr kT q3)
      generalize sp_pr x f 5 none (sp_pass x s) = r at hQ q1 q2 hr hrf
      obtain ⟨r1, r2, r3⟩ := hr
      have r2' : cN (pC s) ≤ cN (pC r.2) := r2
      by_cases hz : pF r.2 = 0
      · obtain ⟨w1, w2, w3, w4⟩ := r3 hz
        have w5 : tS x s + tZ x s ≤ r.2.1 := w3
        rw [if_neg (fun z => z hz)] at hQ
        rw [q2 hz]
        simp (disch := first | exact ev_ok_i _ | exact ev_ok_r _ | exact ev_ok_n | omega | assumption | decide) only [ev_rm_n, ev_rm_i, ev_rm_r, ev_rm_l, ev_ok_n, ev_ok_i, ev_ok_r, Option.toList_some, Option.toList_none, List.cons_append, List.nil_append, true_and, and_true, true_or, or_true, reduceIte, Nat.reduceEqDiff, if_true, if_false]
        rw [e_Re_conjunction_37]
        simp (disch := first | exact ev_ok_i _ | exact ev_ok_r _ | exact ev_ok_n | omega | assumption | decide) only [ev_rm_n, ev_rm_i, ev_rm_r, ev_rm_l, ev_ok_n, ev_ok_i, ev_ok_r, Option.toList_some, Option.toList_none, List.cons_append, List.nil_append, true_and, and_true, true_or, or_true, reduceIte, Nat.reduceEqDiff, if_true, if_false, cg_Dp_rc, cg_Dp_text, cg_Dp_circuit, cg_Dp_reader, cg_Dp_current, cg_Dp_working, cg_Dp_saturator, cg_Dp_table, cg_Te_rc, cg_Te_bytes, cg_Te_length, cp_Te_length, cg_Ci_rc, cg_Ci_kinds, cg_Ci_firsts, cg_Ci_seconds, cg_Ci_inputVariables, cg_Ci_names, cg_Ci_nameLengths, cg_Ci_size, cp_Ci_size, cg_Ci_inputs, cp_Ci_inputs, cg_Re_rc, cg_Re_text, cg_Re_circuit, cg_Re_token, cp_Re_token, cg_Re_start, cp_Re_start, cg_Re_next, cp_Re_next, cg_Re_open, cp_Re_open, cg_Re_fault, cp_Re_fault, cg_Re_faultPlace, cp_Re_faultPlace, cg_Sa_rc, cg_Sa_circuit, cg_Sa_before, cg_Sa_trueBranches, cg_Sa_falseBranches, cg_Sa_tallies, cg_Sa_mostSteps, cp_Sa_mostSteps, cg_Sa_spent, cp_Sa_spent, cg_Ta_rc, cg_Ta_circuit, cg_Ta_words, cr_kinds, cw_kinds, cr_firsts, cw_firsts, cr_seconds, cw_seconds, cr_inputVariables, cw_inputVariables, cr_nameLengths, cw_nameLengths, cr_tallies, cw_tallies, cr_bytes, cw_bytes, cr_words, cw_words, cl_tallies, cr_names, cr_trueB, cr_falseB, cr_name, cw_name, cq_rc, cq_st, cq_size, cq_classes, cq_contradiction, cqp_size, cqp_classes, cqp_contradiction, cq_rd, cq_wr, cq_copy, cl_s_1, cl_s_2, cl_ar_1, cl_ar_2, cl_w_1, cl_w_2]
        refine c_combine (lv := 4) (d := d + 8) (by decide) q1 r1 hz (by omega) w1 (fun τ4 u2 t1 t2 t3 => ?_)
        have hcm := sp_cmb_ok (lv := 4) (v := v) (w := r.1) (a := tS x s) r1 hz (by omega) w1
        have hcf := sp_cmb_fl hrf 4 v r.1 (tS x s)
        generalize sp_cmb 4 v r.1 (tS x s) r.2 = u3 at hQ t1 t2 hcm hcf
        obtain ⟨m1, m2, m3⟩ := hcm
        simp (disch := first | exact ev_ok_i _ | exact ev_ok_r _ | exact ev_ok_n | omega | assumption | decide) only [e_Re_conjunction_40, e_Re_conjunction_41, ev_rm_n, ev_rm_i, ev_rm_r, ev_rm_l, ev_ok_n, ev_ok_i, ev_ok_r, Option.toList_some, Option.toList_none, List.cons_append, List.nil_append, true_and, and_true, true_or, or_true, reduceIte, Nat.reduceEqDiff, if_true, if_false, nI_1]
        rw [e_Re_conjunction_44]
        by_cases hcz : pF u3.2 = 0
        · rw [if_neg (fun z => z hcz)] at hQ
          obtain ⟨n1, n2, n3⟩ := m3 hcz
          have w6 := m1.2.2.1
          rw [t2 hcz]
          exact ihB 4 u3.2 u3.1 (i + 1) τ4 (d + 12) _ Q m1 hcz (by decide) (by decide) n1 (by omega) (by rw [n2, w2]; exact he) (by omega) t1 (fun τ5 u4 y1 y2 y3 => hQ τ5 u4 y1 y2 (cl_ke_tr k3 (cl_ke_tr t3 y3)))
        · rw [if_pos hcz] at hQ
          exact c_end4 (e := d + 10) (cl_P_f6 t1 hcz hcf) (hQ τ4 u2 t1 (fun z => absurd z hcz) (cl_ke_tr k3 t3))
      · rw [if_pos hz] at hQ
        have x6 := cl_P_f6 q1 hz hrf
        simp (disch := first | exact ev_ok_i _ | exact ev_ok_r _ | exact ev_ok_n | omega | assumption | decide) only [e_Re_conjunction_37, ev_rm_n, ev_rm_i, ev_rm_r, ev_rm_l, ev_ok_n, ev_ok_i, ev_ok_r, Option.toList_some, Option.toList_none, List.cons_append, List.nil_append, true_and, and_true, true_or, or_true, reduceIte, Nat.reduceEqDiff, if_true, if_false, cg_Dp_rc, cg_Dp_text, cg_Dp_circuit, cg_Dp_reader, cg_Dp_current, cg_Dp_working, cg_Dp_saturator, cg_Dp_table, cg_Te_rc, cg_Te_bytes, cg_Te_length, cp_Te_length, cg_Ci_rc, cg_Ci_kinds, cg_Ci_firsts, cg_Ci_seconds, cg_Ci_inputVariables, cg_Ci_names, cg_Ci_nameLengths, cg_Ci_size, cp_Ci_size, cg_Ci_inputs, cp_Ci_inputs, cg_Re_rc, cg_Re_text, cg_Re_circuit, cg_Re_token, cp_Re_token, cg_Re_start, cp_Re_start, cg_Re_next, cp_Re_next, cg_Re_open, cp_Re_open, cg_Re_fault, cp_Re_fault, cg_Re_faultPlace, cp_Re_faultPlace, cg_Sa_rc, cg_Sa_circuit, cg_Sa_before, cg_Sa_trueBranches, cg_Sa_falseBranches, cg_Sa_tallies, cg_Sa_mostSteps, cp_Sa_mostSteps, cg_Sa_spent, cp_Sa_spent, cg_Ta_rc, cg_Ta_circuit, cg_Ta_words, cr_kinds, cw_kinds, cr_firsts, cw_firsts, cr_seconds, cw_seconds, cr_inputVariables, cw_inputVariables, cr_nameLengths, cw_nameLengths, cr_tallies, cw_tallies, cr_bytes, cw_bytes, cr_words, cw_words, cl_tallies, cr_names, cr_trueB, cr_falseB, cr_name, cw_name, cq_rc, cq_st, cq_size, cq_classes, cq_contradiction, cqp_size, cqp_classes, cqp_contradiction, cq_rd, cq_wr, cq_copy, cl_s_1, cl_s_2, cl_ar_1, cl_ar_2, cl_w_1, cl_w_2, c_combineF]
        simp (disch := first | exact ev_ok_i _ | exact ev_ok_r _ | exact ev_ok_n | omega | assumption | decide) only [e_Re_conjunction_40, e_Re_conjunction_41, ev_rm_n, ev_rm_i, ev_rm_r, ev_rm_l, ev_ok_n, ev_ok_i, ev_ok_r, Option.toList_some, Option.toList_none, List.cons_append, List.nil_append, true_and, and_true, true_or, or_true, reduceIte, Nat.reduceEqDiff, if_true, if_false, nI_1]
        rw [e_Re_conjunction_44]
        exact c_end4 (e := d + 10) x6 (hQ τ3 _ q1 (fun z => absurd z hz) k3)
    · have hk : ¬ cs_k (tK x s) = 8 := fun z => ht ((cs_k_inj kd (by unfold cs_kd; simp)).mp (z.trans (by decide : 8 = cs_k 38)))
      rw [if_neg ht] at hQ
      have hu0 : ¬ u0 = 8 := fun z => hk (hu.mp z).2
      simp (disch := first | exact ev_ok_i _ | exact ev_ok_r _ | exact ev_ok_n | omega | assumption | decide) only [e_Re_conjunction_18, e_Re_conjunction_20, e_Re_conjunction_47, e_Re_conjunction_48, ev_rm_n, ev_rm_i, ev_rm_r, ev_rm_l, ev_ok_n, ev_ok_i, ev_ok_r, Option.toList_some, Option.toList_none, List.cons_append, List.nil_append, true_and, and_true, true_or, or_true, reduceIte, Nat.reduceEqDiff, if_true, if_false, hu0, not_false_eq_true, if_true]
      exact hQ τ2 _ p1 (fun _ => rfl) k1
  · rw [if_pos hl] at hQ
    have hu0 : ¬ u0 = 8 := fun z => hl (hu.mp z).1
    simp (disch := first | exact ev_ok_i _ | exact ev_ok_r _ | exact ev_ok_n | omega | assumption | decide) only [e_Re_conjunction_18, e_Re_conjunction_20, e_Re_conjunction_47, e_Re_conjunction_48, ev_rm_n, ev_rm_i, ev_rm_r, ev_rm_l, ev_ok_n, ev_ok_i, ev_ok_r, Option.toList_some, Option.toList_none, List.cons_append, List.nil_append, true_and, and_true, true_or, or_true, reduceIte, Nat.reduceEqDiff, if_true, if_false, hu0, not_false_eq_true, if_true]
    exact hQ τ2 _ p1 (fun z => absurd z hl) k1
theorem c_PA4 (ihA : cl_PA X B g x n0 f) (ihB : cl_PB X B g x n0 f) {s : sp_P} {e : Nat} (hok : sp_pok x n0 s) (h0 : pF s = 0) (hf : 8 * (x.2 - s.1) + 7 - 4 ≤ f + 1) (he : 6 * (40 - pO s) + (5 - 4) + 12 ≤ e) (hP : cl_P τ x s) (hQ : ∀ τ2 u, cl_P τ2 x (sp_pr x (f + 1) 4 none s).2 → (pF (sp_pr x (f + 1) 4 none s).2 = 0 → u = nI (sp_pr x (f + 1) 4 none s).1) → cl_ke cl_JR τ τ2 → Q (some (.int u)) (cl_put B τ2 g)) : ev_C X e m_Re_conjunction [.ref (B + 34)] (cl_put B τ g) Q := by
  obtain ⟨d, rfl⟩ : ∃ d, e = d + 12 := ⟨e - 12, by omega⟩
  show ev_R X (d + 12) m_Re_conjunction 0 [some (.ref (B + 34)), none, none, none] [] (cl_put B τ g) Q
  have hpos := hok.2.2.1
  rw [sp_pr, if_neg (by decide), show sp_pr x f (4 + 1) none = sp_pr x f 5 none from rfl] at hQ
  simp (disch := first | exact ev_ok_i _ | exact ev_ok_r _ | exact ev_ok_n | omega | assumption | decide) only [e_Re_conjunction_0, e_Re_conjunction_1, ev_rm_n, ev_rm_i, ev_rm_r, ev_rm_l, ev_ok_n, ev_ok_i, ev_ok_r, Option.toList_some, Option.toList_none, List.cons_append, List.nil_append, true_and, and_true, true_or, or_true, reduceIte, Nat.reduceEqDiff, if_true, if_false, cg_Dp_rc, cg_Dp_text, cg_Dp_circuit, cg_Dp_reader, cg_Dp_current, cg_Dp_working, cg_Dp_saturator, cg_Dp_table, cg_Te_rc, cg_Te_bytes, cg_Te_length, cp_Te_length, cg_Ci_rc, cg_Ci_kinds, cg_Ci_firsts, cg_Ci_seconds, cg_Ci_inputVariables, cg_Ci_names, cg_Ci_nameLengths, cg_Ci_size, cp_Ci_size, cg_Ci_inputs, cp_Ci_inputs, cg_Re_rc, cg_Re_text, cg_Re_circuit, cg_Re_token, cp_Re_token, cg_Re_start, cp_Re_start, cg_Re_next, cp_Re_next, cg_Re_open, cp_Re_open, cg_Re_fault, cp_Re_fault, cg_Re_faultPlace, cp_Re_faultPlace, cg_Sa_rc, cg_Sa_circuit, cg_Sa_before, cg_Sa_trueBranches, cg_Sa_falseBranches, cg_Sa_tallies, cg_Sa_mostSteps, cp_Sa_mostSteps, cg_Sa_spent, cp_Sa_spent, cg_Ta_rc, cg_Ta_circuit, cg_Ta_words, cr_kinds, cw_kinds, cr_firsts, cw_firsts, cr_seconds, cw_seconds, cr_inputVariables, cw_inputVariables, cr_nameLengths, cw_nameLengths, cr_tallies, cw_tallies, cr_bytes, cw_bytes, cr_words, cw_words, cl_tallies, cr_names, cr_trueB, cr_falseB, cr_name, cw_name, cq_rc, cq_st, cq_size, cq_classes, cq_contradiction, cqp_size, cqp_classes, cqp_contradiction, cq_rd, cq_wr, cq_copy, cl_s_1, cl_s_2, cl_ar_1, cl_ar_2, cl_w_1, cl_w_2]
  refine ihA 5 s τ (d + 11) _ hok h0 (by decide) (by omega) (by omega) hP (fun τ3 u q1 q2 q3 => ?_)
  have hr := sp_pr_ok x n0 f 5 none s hok h0 (by decide) (fun _ => by omega) (fun v hv => by cases hv)
  have hrf : sp_fl (sp_pr x f 5 none s).2 := sp_pr_fl f 5 none s (sp_fl_0 h0)
  generalize sp_pr x f 5 none s = r at hQ q1 q2 hr hrf
  obtain ⟨r1, r2, r3⟩ := hr
  have e0 : (0 : Int32) = nI 0 := rfl
  simp (disch := first | exact ev_ok_i _ | exact ev_ok_r _ | exact ev_ok_n | omega | assumption | decide) only [e_Re_conjunction_4, e_Re_conjunction_5, e_Re_conjunction_6, ev_rm_n, ev_rm_i, ev_rm_r, ev_rm_l, ev_ok_n, ev_ok_i, ev_ok_r, Option.toList_some, Option.toList_none, List.cons_append, List.nil_append, true_and, and_true, true_or, or_true, reduceIte, Nat.reduceEqDiff, if_true, if_false]
  by_cases hz : pF r.2 = 0
  · rw [if_neg (fun z => z hz)] at hQ
    obtain ⟨w1, w2, w3, w4⟩ := r3 hz
    have w5 := w4 rfl
    have w6 := r1.2.2.1
    rw [q2 hz]
    exact ihB 4 r.2 r.1 0 τ3 (d + 12) none Q r1 hz (by decide) (by decide) w1 (by omega) (by rw [w2]; exact he) (by omega) q1 (fun τ5 u4 y1 y2 y3 => hQ τ5 u4 y1 y2 (cl_ke_tr q3 y3))
  · rw [if_pos hz] at hQ
    exact c_end4 (i := 0) (e := d + 10) (cl_P_f6 q1 hz hrf) (hQ τ3 u q1 (fun z => absurd z hz) q3)
theorem c_PC (ihA : cl_PA X B g x n0 f) (hX : cl_TX X B g) : cl_PC X B g x n0 (f + 1) := by
  intro s v τ e Q hok h0 hv hf he hP hQ
  obtain ⟨d, rfl⟩ : ∃ d, e = d + 12 := ⟨e - 12, by omega⟩
  have hpos := hok.2.2.1
  have hi24 := hok.1.1.2.2
  have ho := hok.2.2.2.1
  have i10 : ¬ (1 : Int32) = 0 := by decide
  have hfl := sp_fl_0 h0
  have kd : cs_kd (tK x s) := sp_tw_kd x _
  rw [sp_pr] at hQ
  simp (disch := first | exact ev_ok_i _ | exact ev_ok_r _ | exact ev_ok_n | omega | assumption | decide) only [e_Re_implication_5, ev_rm_n, ev_rm_i, ev_rm_r, ev_rm_l, ev_ok_n, ev_ok_i, ev_ok_r, Option.toList_some, Option.toList_none, List.cons_append, List.nil_append, true_and, and_true, true_or, or_true, reduceIte, Nat.reduceEqDiff, if_true, if_false, cg_Dp_rc, cg_Dp_text, cg_Dp_circuit, cg_Dp_reader, cg_Dp_current, cg_Dp_working, cg_Dp_saturator, cg_Dp_table, cg_Te_rc, cg_Te_bytes, cg_Te_length, cp_Te_length, cg_Ci_rc, cg_Ci_kinds, cg_Ci_firsts, cg_Ci_seconds, cg_Ci_inputVariables, cg_Ci_names, cg_Ci_nameLengths, cg_Ci_size, cp_Ci_size, cg_Ci_inputs, cp_Ci_inputs, cg_Re_rc, cg_Re_text, cg_Re_circuit, cg_Re_token, cp_Re_token, cg_Re_start, cp_Re_start, cg_Re_next, cp_Re_next, cg_Re_open, cp_Re_open, cg_Re_fault, cp_Re_fault, cg_Re_faultPlace, cp_Re_faultPlace, cg_Sa_rc, cg_Sa_circuit, cg_Sa_before, cg_Sa_trueBranches, cg_Sa_falseBranches, cg_Sa_tallies, cg_Sa_mostSteps, cp_Sa_mostSteps, cg_Sa_spent, cp_Sa_spent, cg_Ta_rc, cg_Ta_circuit, cg_Ta_words, cr_kinds, cw_kinds, cr_firsts, cw_firsts, cr_seconds, cw_seconds, cr_inputVariables, cw_inputVariables, cr_nameLengths, cw_nameLengths, cr_tallies, cw_tallies, cr_bytes, cw_bytes, cr_words, cw_words, cl_tallies, cr_names, cr_trueB, cr_falseB, cr_name, cw_name, cq_rc, cq_st, cq_size, cq_classes, cq_contradiction, cqp_size, cqp_classes, cqp_contradiction, cq_rd, cq_wr, cq_copy, cl_s_1, cl_s_2, cl_ar_1, cl_ar_2, cl_w_1, cl_w_2]
  rw [e_Re_implication_6]
  simp (disch := first | exact ev_ok_i _ | exact ev_ok_r _ | exact ev_ok_n | omega | assumption | decide) only [ev_rm_n, ev_rm_i, ev_rm_r, ev_rm_l, ev_ok_n, ev_ok_i, ev_ok_r, Option.toList_some, Option.toList_none, List.cons_append, List.nil_append, true_and, and_true, true_or, or_true, reduceIte, Nat.reduceEqDiff, if_true, if_false, cg_Dp_rc, cg_Dp_text, cg_Dp_circuit, cg_Dp_reader, cg_Dp_current, cg_Dp_working, cg_Dp_saturator, cg_Dp_table, cg_Te_rc, cg_Te_bytes, cg_Te_length, cp_Te_length, cg_Ci_rc, cg_Ci_kinds, cg_Ci_firsts, cg_Ci_seconds, cg_Ci_inputVariables, cg_Ci_names, cg_Ci_nameLengths, cg_Ci_size, cp_Ci_size, cg_Ci_inputs, cp_Ci_inputs, cg_Re_rc, cg_Re_text, cg_Re_circuit, cg_Re_token, cp_Re_token, cg_Re_start, cp_Re_start, cg_Re_next, cp_Re_next, cg_Re_open, cp_Re_open, cg_Re_fault, cp_Re_fault, cg_Re_faultPlace, cp_Re_faultPlace, cg_Sa_rc, cg_Sa_circuit, cg_Sa_before, cg_Sa_trueBranches, cg_Sa_falseBranches, cg_Sa_tallies, cg_Sa_mostSteps, cp_Sa_mostSteps, cg_Sa_spent, cp_Sa_spent, cg_Ta_rc, cg_Ta_circuit, cg_Ta_words, cr_kinds, cw_kinds, cr_firsts, cw_firsts, cr_seconds, cw_seconds, cr_inputVariables, cw_inputVariables, cr_nameLengths, cw_nameLengths, cr_tallies, cw_tallies, cr_bytes, cw_bytes, cr_words, cw_words, cl_tallies, cr_names, cr_trueB, cr_falseB, cr_name, cw_name, cq_rc, cq_st, cq_size, cq_classes, cq_contradiction, cqp_size, cqp_classes, cqp_contradiction, cq_rd, cq_wr, cq_copy, cl_s_1, cl_s_2, cl_ar_1, cl_ar_2, cl_w_1, cl_w_2]
  refine c_reSees 11 (W := 11) rfl (d := d + 5) hX hP hok h0 (by decide) (by decide) (fun τ2 u0 hu p1 p2 p3 p4 => ?_)
  have k1 : cl_ke cl_JR τ τ2 := cl_ke_mo p4 (fun i z => cl_J4_R z)
  by_cases hl : pF (sp_look x s) = 0
  · have el := sp_look_e hl
    have hL := p3 hl
    rw [el] at p1 hQ
    rw [if_neg (fun z => z h0), if_pos rfl] at hQ
    by_cases ht : tK x s = 260
    · have hk : cs_k (tK x s) = 11 := by rw [ht]; decide
      rw [if_pos ht] at hQ
      have hu1 : u0 = 11 := hu.mpr ⟨hl, hk⟩
      have hm := sp_tok_lt hok (by rw [ht]; decide)
      have hT := cl_P_take hi24 p1 hL h0
      have kT : cl_ke cl_JR τ2 (cl_s τ2 34 2 0) := cl_ke_s (S := cl_JR) τ2 2 0 (by decide)
      simp (disch := first | exact ev_ok_i _ | exact ev_ok_r _ | exact ev_ok_n | omega | assumption | decide) only [e_Re_implication_9, e_Re_implication_11, e_Re_implication_16, e_Re_implication_17, e_Re_implication_20, e_Re_implication_21, e_Re_implication_22, ev_rm_n, ev_rm_i, ev_rm_r, ev_rm_l, ev_ok_n, ev_ok_i, ev_ok_r, Option.toList_some, Option.toList_none, List.cons_append, List.nil_append, true_and, and_true, true_or, or_true, reduceIte, Nat.reduceEqDiff, if_true, if_false, cg_Dp_rc, cg_Dp_text, cg_Dp_circuit, cg_Dp_reader, cg_Dp_current, cg_Dp_working, cg_Dp_saturator, cg_Dp_table, cg_Te_rc, cg_Te_bytes, cg_Te_length, cp_Te_length, cg_Ci_rc, cg_Ci_kinds, cg_Ci_firsts, cg_Ci_seconds, cg_Ci_inputVariables, cg_Ci_names, cg_Ci_nameLengths, cg_Ci_size, cp_Ci_size, cg_Ci_inputs, cp_Ci_inputs, cg_Re_rc, cg_Re_text, cg_Re_circuit, cg_Re_token, cp_Re_token, cg_Re_start, cp_Re_start, cg_Re_next, cp_Re_next, cg_Re_open, cp_Re_open, cg_Re_fault, cp_Re_fault, cg_Re_faultPlace, cp_Re_faultPlace, cg_Sa_rc, cg_Sa_circuit, cg_Sa_before, cg_Sa_trueBranches, cg_Sa_falseBranches, cg_Sa_tallies, cg_Sa_mostSteps, cp_Sa_mostSteps, cg_Sa_spent, cp_Sa_spent, cg_Ta_rc, cg_Ta_circuit, cg_Ta_words, cr_kinds, cw_kinds, cr_firsts, cw_firsts, cr_seconds, cw_seconds, cr_inputVariables, cw_inputVariables, cr_nameLengths, cw_nameLengths, cr_tallies, cw_tallies, cr_bytes, cw_bytes, cr_words, cw_words, cl_tallies, cr_names, cr_trueB, cr_falseB, cr_name, cw_name, cq_rc, cq_st, cq_size, cq_classes, cq_contradiction, cqp_size, cqp_classes, cqp_contradiction, cq_rd, cq_wr, cq_copy, cl_s_1, cl_s_2, cl_ar_1, cl_ar_2, cl_w_1, cl_w_2, hu1, if_true, c_take2, hL.2.1]
      rw [e_Re_implication_23]
      simp (disch := first | exact ev_ok_i _ | exact ev_ok_r _ | exact ev_ok_n | omega | assumption | decide) only [ev_rm_n, ev_rm_i, ev_rm_r, ev_rm_l, ev_ok_n, ev_ok_i, ev_ok_r, Option.toList_some, Option.toList_none, List.cons_append, List.nil_append, true_and, and_true, true_or, or_true, reduceIte, Nat.reduceEqDiff, if_true, if_false, cg_Dp_rc, cg_Dp_text, cg_Dp_circuit, cg_Dp_reader, cg_Dp_current, cg_Dp_working, cg_Dp_saturator, cg_Dp_table, cg_Te_rc, cg_Te_bytes, cg_Te_length, cp_Te_length, cg_Ci_rc, cg_Ci_kinds, cg_Ci_firsts, cg_Ci_seconds, cg_Ci_inputVariables, cg_Ci_names, cg_Ci_nameLengths, cg_Ci_size, cp_Ci_size, cg_Ci_inputs, cp_Ci_inputs, cg_Re_rc, cg_Re_text, cg_Re_circuit, cg_Re_token, cp_Re_token, cg_Re_start, cp_Re_start, cg_Re_next, cp_Re_next, cg_Re_open, cp_Re_open, cg_Re_fault, cp_Re_fault, cg_Re_faultPlace, cp_Re_faultPlace, cg_Sa_rc, cg_Sa_circuit, cg_Sa_before, cg_Sa_trueBranches, cg_Sa_falseBranches, cg_Sa_tallies, cg_Sa_mostSteps, cp_Sa_mostSteps, cg_Sa_spent, cp_Sa_spent, cg_Ta_rc, cg_Ta_circuit, cg_Ta_words, cr_kinds, cw_kinds, cr_firsts, cw_firsts, cr_seconds, cw_seconds, cr_inputVariables, cw_inputVariables, cr_nameLengths, cw_nameLengths, cr_tallies, cw_tallies, cr_bytes, cw_bytes, cr_words, cw_words, cl_tallies, cr_names, cr_trueB, cr_falseB, cr_name, cw_name, cq_rc, cq_st, cq_size, cq_classes, cq_contradiction, cqp_size, cqp_classes, cqp_contradiction, cq_rd, cq_wr, cq_copy, cl_s_1, cl_s_2, cl_ar_1, cl_ar_2, cl_w_1, cl_w_2]
      refine c_reOpens (s := sp_pass x s) (d := d + 10) hi24 hT h0 ho (fun e40 τ3 q1 q2 => ?_) (fun e40 τ3 q1 q2 => ?_)
      · have e40' : pO s = 40 := e40
        rw [if_pos e40'] at hQ
        simp (disch := first | exact ev_ok_i _ | exact ev_ok_r _ | exact ev_ok_n | omega | assumption | decide) only [e_Re_implication_26, e_Re_implication_29, e_Re_implication_30, ev_rm_n, ev_rm_i, ev_rm_r, ev_rm_l, ev_ok_n, ev_ok_i, ev_ok_r, Option.toList_some, Option.toList_none, List.cons_append, List.nil_append, true_and, and_true, true_or, or_true, reduceIte, Nat.reduceEqDiff, if_true, if_false, not_true_eq_false, if_false]
        have hf3 : ¬ pF (sp_fail (sp_pass x s) 3 (tS x s)) = 0 := sp_fail_f (by decide)
        have hfs : ¬ pF (sp_fail s 3 (tS x s)) = 0 := sp_fail_f (by decide)
        have eF : (sp_fail s 3 (tS x s)).2.1 = (sp_fail (sp_pass x s) 3 (tS x s)).2.1 := by rw [sp_fail_0 h0, sp_fail_0 (s := sp_pass x s) h0]
        have eC : pC (sp_fail s 3 (tS x s)) = pC (sp_fail (sp_pass x s) 3 (tS x s)) := by rw [sp_fail_c, sp_fail_c]; rfl
        exact hQ τ3 _ (cl_P_cg eC eF hf3 q1) (fun z => absurd z hfs) (cl_ke_tr k1 (cl_ke_tr kT (cl_ke_mo q2 (fun i z => cl_J4_R z))))
      · have e40' : ¬ pO s = 40 := e40
        rw [if_neg e40'] at hQ
        simp (disch := first | exact ev_ok_i _ | exact ev_ok_r _ | exact ev_ok_n | omega | assumption | decide) only [e_Re_implication_26, e_Re_implication_31, e_Re_implication_32, ev_rm_n, ev_rm_i, ev_rm_r, ev_rm_l, ev_ok_n, ev_ok_i, ev_ok_r, Option.toList_some, Option.toList_none, List.cons_append, List.nil_append, true_and, and_true, true_or, or_true, reduceIte, Nat.reduceEqDiff, if_true, if_false, cg_Dp_rc, cg_Dp_text, cg_Dp_circuit, cg_Dp_reader, cg_Dp_current, cg_Dp_working, cg_Dp_saturator, cg_Dp_table, cg_Te_rc, cg_Te_bytes, cg_Te_length, cp_Te_length, cg_Ci_rc, cg_Ci_kinds, cg_Ci_firsts, cg_Ci_seconds, cg_Ci_inputVariables, cg_Ci_names, cg_Ci_nameLengths, cg_Ci_size, cp_Ci_size, cg_Ci_inputs, cp_Ci_inputs, cg_Re_rc, cg_Re_text, cg_Re_circuit, cg_Re_token, cp_Re_token, cg_Re_start, cp_Re_start, cg_Re_next, cp_Re_next, cg_Re_open, cp_Re_open, cg_Re_fault, cp_Re_fault, cg_Re_faultPlace, cp_Re_faultPlace, cg_Sa_rc, cg_Sa_circuit, cg_Sa_before, cg_Sa_trueBranches, cg_Sa_falseBranches, cg_Sa_tallies, cg_Sa_mostSteps, cp_Sa_mostSteps, cg_Sa_spent, cp_Sa_spent, cg_Ta_rc, cg_Ta_circuit, cg_Ta_words, cr_kinds, cw_kinds, cr_firsts, cw_firsts, cr_seconds, cw_seconds, cr_inputVariables, cw_inputVariables, cr_nameLengths, cw_nameLengths, cr_tallies, cw_tallies, cr_bytes, cw_bytes, cr_words, cw_words, cl_tallies, cr_names, cr_trueB, cr_falseB, cr_name, cw_name, cq_rc, cq_st, cq_size, cq_classes, cq_contradiction, cqp_size, cqp_classes, cqp_contradiction, cq_rd, cq_wr, cq_copy, cl_s_1, cl_s_2, cl_ar_1, cl_ar_2, cl_w_1, cl_w_2, i10, not_false_eq_true, if_true]
        have hok2 := sp_opn_ok hok e40'
        have htl : tS x s + tZ x s ≤ x.2 := (sp_tw_sz (sp_ts_le hok.2.2.1).2).1
        have k2 : cl_ke cl_JR τ τ3 := cl_ke_tr k1 (cl_ke_tr kT (cl_ke_mo q2 (fun i z => cl_J4_R z)))
        refine ihA 1 (sp_opn x s) τ3 (d + 11) _ hok2 h0 (by decide) (by show 8 * (x.2 - (tS x s + tZ x s)) + 7 - 1 ≤ f; omega) (by show 6 * (40 - (pO s + 1)) + (5 - 1) + 12 ≤ d + 11; omega) q1 (fun τ4 u t1 t2 t3 => ?_)
        have hr := sp_pr_ok x n0 f 1 none (sp_opn x s) hok2 h0 (by decide) (fun _ => by show 8 * (x.2 - (tS x s + tZ x s)) + 7 - 1 ≤ f; omega) (fun v hv => by cases hv)
        have hrf : sp_fl (sp_pr x f 1 none (sp_opn x s)).2 := sp_pr_fl f 1 none (sp_opn x s) hfl
        have k3 : cl_ke cl_JR τ τ4 := cl_ke_tr k2 t3
        generalize sp_pr x f 1 none (sp_opn x s) = r at hQ t1 t2 hr hrf
        obtain ⟨r1, r2, r3⟩ := hr
        have r2' : cN (pC s) ≤ cN (pC r.2) := r2
        have hri := r1.1.1.2.2
        simp (disch := first | exact ev_ok_i _ | exact ev_ok_r _ | exact ev_ok_n | omega | assumption | decide) only [e_Re_implication_35, e_Re_implication_36, e_Re_implication_37, e_Re_implication_38, e_Re_implication_41, e_Re_implication_42, e_Re_implication_43, e_Re_implication_46, e_Re_implication_47, e_Re_implication_49, e_Re_implication_50, e_Re_implication_51, ev_rm_n, ev_rm_i, ev_rm_r, ev_rm_l, ev_ok_n, ev_ok_i, ev_ok_r, Option.toList_some, Option.toList_none, List.cons_append, List.nil_append, true_and, and_true, true_or, or_true, reduceIte, Nat.reduceEqDiff, if_true, if_false, cg_Dp_rc, cg_Dp_text, cg_Dp_circuit, cg_Dp_reader, cg_Dp_current, cg_Dp_working, cg_Dp_saturator, cg_Dp_table, cg_Te_rc, cg_Te_bytes, cg_Te_length, cp_Te_length, cg_Ci_rc, cg_Ci_kinds, cg_Ci_firsts, cg_Ci_seconds, cg_Ci_inputVariables, cg_Ci_names, cg_Ci_nameLengths, cg_Ci_size, cp_Ci_size, cg_Ci_inputs, cp_Ci_inputs, cg_Re_rc, cg_Re_text, cg_Re_circuit, cg_Re_token, cp_Re_token, cg_Re_start, cp_Re_start, cg_Re_next, cp_Re_next, cg_Re_open, cp_Re_open, cg_Re_fault, cp_Re_fault, cg_Re_faultPlace, cp_Re_faultPlace, cg_Sa_rc, cg_Sa_circuit, cg_Sa_before, cg_Sa_trueBranches, cg_Sa_falseBranches, cg_Sa_tallies, cg_Sa_mostSteps, cp_Sa_mostSteps, cg_Sa_spent, cp_Sa_spent, cg_Ta_rc, cg_Ta_circuit, cg_Ta_words, cr_kinds, cw_kinds, cr_firsts, cw_firsts, cr_seconds, cw_seconds, cr_inputVariables, cw_inputVariables, cr_nameLengths, cw_nameLengths, cr_tallies, cw_tallies, cr_bytes, cw_bytes, cr_words, cw_words, cl_tallies, cr_names, cr_trueB, cr_falseB, cr_name, cw_name, cq_rc, cq_st, cq_size, cq_classes, cq_contradiction, cqp_size, cqp_classes, cqp_contradiction, cq_rd, cq_wr, cq_copy, cl_s_1, cl_s_2, cl_ar_1, cl_ar_2, cl_w_1, cl_w_2]
        have k4 : cl_ke cl_JR τ (cl_s τ4 34 5 (τ4.1 34 5 - 1)) := cl_ke_tr k3 (cl_ke_s (S := cl_JR) τ4 5 _ (by decide))
        by_cases hz : pF r.2 = 0
        · obtain ⟨w1, w2, w3, w4⟩ := r3 hz
          have w2' : pO r.2 = pO s + 1 := w2
          rw [if_neg (fun z => z hz)] at hQ
          have hv5 : τ4.1 34 5 - 1 = nI (pO r.2 - 1) := by
            rw [((t1.2.2.2 hz).2.1 : τ4.1 34 5 = nI (pO r.2)), w2', show (1 : Int32) = nI 1 from rfl, nL_sub (by omega)]
          have hPc := cl_P_cls hri t1 (fun _ => by omega) (τ4.1 34 5 - 1) (fun _ => hv5)
          rw [t2 hz]
          rw [e_Re_implication_52]
          simp (disch := first | exact ev_ok_i _ | exact ev_ok_r _ | exact ev_ok_n | omega | assumption | decide) only [ev_rm_n, ev_rm_i, ev_rm_r, ev_rm_l, ev_ok_n, ev_ok_i, ev_ok_r, Option.toList_some, Option.toList_none, List.cons_append, List.nil_append, true_and, and_true, true_or, or_true, reduceIte, Nat.reduceEqDiff, if_true, if_false, cg_Dp_rc, cg_Dp_text, cg_Dp_circuit, cg_Dp_reader, cg_Dp_current, cg_Dp_working, cg_Dp_saturator, cg_Dp_table, cg_Te_rc, cg_Te_bytes, cg_Te_length, cp_Te_length, cg_Ci_rc, cg_Ci_kinds, cg_Ci_firsts, cg_Ci_seconds, cg_Ci_inputVariables, cg_Ci_names, cg_Ci_nameLengths, cg_Ci_size, cp_Ci_size, cg_Ci_inputs, cp_Ci_inputs, cg_Re_rc, cg_Re_text, cg_Re_circuit, cg_Re_token, cp_Re_token, cg_Re_start, cp_Re_start, cg_Re_next, cp_Re_next, cg_Re_open, cp_Re_open, cg_Re_fault, cp_Re_fault, cg_Re_faultPlace, cp_Re_faultPlace, cg_Sa_rc, cg_Sa_circuit, cg_Sa_before, cg_Sa_trueBranches, cg_Sa_falseBranches, cg_Sa_tallies, cg_Sa_mostSteps, cp_Sa_mostSteps, cg_Sa_spent, cp_Sa_spent, cg_Ta_rc, cg_Ta_circuit, cg_Ta_words, cr_kinds, cw_kinds, cr_firsts, cw_firsts, cr_seconds, cw_seconds, cr_inputVariables, cw_inputVariables, cr_nameLengths, cw_nameLengths, cr_tallies, cw_tallies, cr_bytes, cw_bytes, cr_words, cw_words, cl_tallies, cr_names, cr_trueB, cr_falseB, cr_name, cw_name, cq_rc, cq_st, cq_size, cq_classes, cq_contradiction, cqp_size, cqp_classes, cqp_contradiction, cq_rd, cq_wr, cq_copy, cl_s_1, cl_s_2, cl_ar_1, cl_ar_2, cl_w_1, cl_w_2]
          refine c_combine (lv := 1) (d := d + 8) (s := sp_cls1 r.2) (by decide) hPc (sp_cls1_ok r1) hz (by show v < 2 * cN (pC r.2); omega) w1 (fun τ5 u2 y1 y2 y3 => ?_)
          simp (disch := first | exact ev_ok_i _ | exact ev_ok_r _ | exact ev_ok_n | omega | assumption | decide) only [e_Re_implication_55, ev_rm_n, ev_rm_i, ev_rm_r, ev_rm_l, ev_ok_n, ev_ok_i, ev_ok_r, Option.toList_some, Option.toList_none, List.cons_append, List.nil_append, true_and, and_true, true_or, or_true, reduceIte, Nat.reduceEqDiff, if_true, if_false]
          exact hQ τ5 u2 y1 y2 (cl_ke_tr k4 y3)
        · rw [if_pos hz] at hQ
          have hPc := cl_P_cls hri t1 (fun z => absurd z hz) (τ4.1 34 5 - 1) (fun z => absurd z hz)
          have x6 := cl_P_f6 hPc hz hrf
          rw [e_Re_implication_52]
          simp (disch := first | exact ev_ok_i _ | exact ev_ok_r _ | exact ev_ok_n | omega | assumption | decide) only [ev_rm_n, ev_rm_i, ev_rm_r, ev_rm_l, ev_ok_n, ev_ok_i, ev_ok_r, Option.toList_some, Option.toList_none, List.cons_append, List.nil_append, true_and, and_true, true_or, or_true, reduceIte, Nat.reduceEqDiff, if_true, if_false, cg_Dp_rc, cg_Dp_text, cg_Dp_circuit, cg_Dp_reader, cg_Dp_current, cg_Dp_working, cg_Dp_saturator, cg_Dp_table, cg_Te_rc, cg_Te_bytes, cg_Te_length, cp_Te_length, cg_Ci_rc, cg_Ci_kinds, cg_Ci_firsts, cg_Ci_seconds, cg_Ci_inputVariables, cg_Ci_names, cg_Ci_nameLengths, cg_Ci_size, cp_Ci_size, cg_Ci_inputs, cp_Ci_inputs, cg_Re_rc, cg_Re_text, cg_Re_circuit, cg_Re_token, cp_Re_token, cg_Re_start, cp_Re_start, cg_Re_next, cp_Re_next, cg_Re_open, cp_Re_open, cg_Re_fault, cp_Re_fault, cg_Re_faultPlace, cp_Re_faultPlace, cg_Sa_rc, cg_Sa_circuit, cg_Sa_before, cg_Sa_trueBranches, cg_Sa_falseBranches, cg_Sa_tallies, cg_Sa_mostSteps, cp_Sa_mostSteps, cg_Sa_spent, cp_Sa_spent, cg_Ta_rc, cg_Ta_circuit, cg_Ta_words, cr_kinds, cw_kinds, cr_firsts, cw_firsts, cr_seconds, cw_seconds, cr_inputVariables, cw_inputVariables, cr_nameLengths, cw_nameLengths, cr_tallies, cw_tallies, cr_bytes, cw_bytes, cr_words, cw_words, cl_tallies, cr_names, cr_trueB, cr_falseB, cr_name, cw_name, cq_rc, cq_st, cq_size, cq_classes, cq_contradiction, cqp_size, cqp_classes, cqp_contradiction, cq_rd, cq_wr, cq_copy, cl_s_1, cl_s_2, cl_ar_1, cl_ar_2, cl_w_1, cl_w_2, c_combineF, e_Re_implication_55]
          exact hQ _ _ (cl_P_cg (s := sp_cls1 r.2) rfl rfl hz hPc) (fun z => absurd z hz) k4
    · have hk : ¬ cs_k (tK x s) = 11 := fun z => ht ((cs_k_inj kd (by unfold cs_kd; simp)).mp (z.trans (by decide : 11 = cs_k 260)))
      rw [if_neg ht] at hQ
      have hu0 : ¬ u0 = 11 := fun z => hk (hu.mp z).2
      simp (disch := first | exact ev_ok_i _ | exact ev_ok_r _ | exact ev_ok_n | omega | assumption | decide) only [e_Re_implication_9, e_Re_implication_11, e_Re_implication_14, e_Re_implication_15, ev_rm_n, ev_rm_i, ev_rm_r, ev_rm_l, ev_ok_n, ev_ok_i, ev_ok_r, Option.toList_some, Option.toList_none, List.cons_append, List.nil_append, true_and, and_true, true_or, or_true, reduceIte, Nat.reduceEqDiff, if_true, if_false, hu0, if_false]
      exact hQ τ2 _ p1 (fun _ => rfl) k1
  · rw [if_pos hl] at hQ
    have hu0 : ¬ u0 = 11 := fun z => hl (hu.mp z).1
    simp (disch := first | exact ev_ok_i _ | exact ev_ok_r _ | exact ev_ok_n | omega | assumption | decide) only [e_Re_implication_9, e_Re_implication_11, e_Re_implication_14, e_Re_implication_15, ev_rm_n, ev_rm_i, ev_rm_r, ev_rm_l, ev_ok_n, ev_ok_i, ev_ok_r, Option.toList_some, Option.toList_none, List.cons_append, List.nil_append, true_and, and_true, true_or, or_true, reduceIte, Nat.reduceEqDiff, if_true, if_false, hu0, if_false]
    exact hQ τ2 _ p1 (fun z => absurd z hl) k1
theorem c_PA1 (ihA : cl_PA X B g x n0 f) (ihC : cl_PC X B g x n0 f) {s : sp_P} {e : Nat} (hok : sp_pok x n0 s) (h0 : pF s = 0) (hf : 8 * (x.2 - s.1) + 7 - 1 ≤ f + 1) (he : 6 * (40 - pO s) + (5 - 1) + 12 ≤ e) (hP : cl_P τ x s) (hQ : ∀ τ2 u, cl_P τ2 x (sp_pr x (f + 1) 1 none s).2 → (pF (sp_pr x (f + 1) 1 none s).2 = 0 → u = nI (sp_pr x (f + 1) 1 none s).1) → cl_ke cl_JR τ τ2 → Q (some (.int u)) (cl_put B τ2 g)) : ev_C X e m_Re_implication [.ref (B + 34)] (cl_put B τ g) Q := by
  obtain ⟨d, rfl⟩ : ∃ d, e = d + 12 := ⟨e - 12, by omega⟩
  show ev_R X (d + 12) m_Re_implication 0 [some (.ref (B + 34)), none, none, none] [] (cl_put B τ g) Q
  have hpos := hok.2.2.1
  rw [sp_pr, if_neg (by decide), show sp_pr x f (1 + 1) none = sp_pr x f 2 none from rfl] at hQ
  simp (disch := first | exact ev_ok_i _ | exact ev_ok_r _ | exact ev_ok_n | omega | assumption | decide) only [e_Re_implication_0, e_Re_implication_1, ev_rm_n, ev_rm_i, ev_rm_r, ev_rm_l, ev_ok_n, ev_ok_i, ev_ok_r, Option.toList_some, Option.toList_none, List.cons_append, List.nil_append, true_and, and_true, true_or, or_true, reduceIte, Nat.reduceEqDiff, if_true, if_false, cg_Dp_rc, cg_Dp_text, cg_Dp_circuit, cg_Dp_reader, cg_Dp_current, cg_Dp_working, cg_Dp_saturator, cg_Dp_table, cg_Te_rc, cg_Te_bytes, cg_Te_length, cp_Te_length, cg_Ci_rc, cg_Ci_kinds, cg_Ci_firsts, cg_Ci_seconds, cg_Ci_inputVariables, cg_Ci_names, cg_Ci_nameLengths, cg_Ci_size, cp_Ci_size, cg_Ci_inputs, cp_Ci_inputs, cg_Re_rc, cg_Re_text, cg_Re_circuit, cg_Re_token, cp_Re_token, cg_Re_start, cp_Re_start, cg_Re_next, cp_Re_next, cg_Re_open, cp_Re_open, cg_Re_fault, cp_Re_fault, cg_Re_faultPlace, cp_Re_faultPlace, cg_Sa_rc, cg_Sa_circuit, cg_Sa_before, cg_Sa_trueBranches, cg_Sa_falseBranches, cg_Sa_tallies, cg_Sa_mostSteps, cp_Sa_mostSteps, cg_Sa_spent, cp_Sa_spent, cg_Ta_rc, cg_Ta_circuit, cg_Ta_words, cr_kinds, cw_kinds, cr_firsts, cw_firsts, cr_seconds, cw_seconds, cr_inputVariables, cw_inputVariables, cr_nameLengths, cw_nameLengths, cr_tallies, cw_tallies, cr_bytes, cw_bytes, cr_words, cw_words, cl_tallies, cr_names, cr_trueB, cr_falseB, cr_name, cw_name, cq_rc, cq_st, cq_size, cq_classes, cq_contradiction, cqp_size, cqp_classes, cqp_contradiction, cq_rd, cq_wr, cq_copy, cl_s_1, cl_s_2, cl_ar_1, cl_ar_2, cl_w_1, cl_w_2]
  refine ihA 2 s τ (d + 11) _ hok h0 (by decide) (by omega) (by omega) hP (fun τ3 u q1 q2 q3 => ?_)
  have hr := sp_pr_ok x n0 f 2 none s hok h0 (by decide) (fun _ => by omega) (fun v hv => by cases hv)
  have hrf : sp_fl (sp_pr x f 2 none s).2 := sp_pr_fl f 2 none s (sp_fl_0 h0)
  generalize sp_pr x f 2 none s = r at hQ q1 q2 hr hrf
  obtain ⟨r1, r2, r3⟩ := hr
  simp (disch := first | exact ev_ok_i _ | exact ev_ok_r _ | exact ev_ok_n | omega | assumption | decide) only [e_Re_implication_4, ev_rm_n, ev_rm_i, ev_rm_r, ev_rm_l, ev_ok_n, ev_ok_i, ev_ok_r, Option.toList_some, Option.toList_none, List.cons_append, List.nil_append, true_and, and_true, true_or, or_true, reduceIte, Nat.reduceEqDiff, if_true, if_false]
  by_cases hz : pF r.2 = 0
  · rw [if_neg (fun z => z hz)] at hQ
    obtain ⟨w1, w2, w3, w4⟩ := r3 hz
    have w5 := w4 rfl
    have w6 := r1.2.2.1
    rw [q2 hz]
    exact ihC r.2 r.1 τ3 (d + 12) Q r1 hz w1 (by omega) (by rw [w2]; exact he) q1 (fun τ5 u4 y1 y2 y3 => hQ τ5 u4 y1 y2 (cl_ke_tr q3 y3))
  · rw [if_pos hz] at hQ
    have x6 := cl_P_f6 q1 hz hrf
    have n11 : ¬ (0 : Int32) = 11 := by decide
    simp (disch := first | exact ev_ok_i _ | exact ev_ok_r _ | exact ev_ok_n | omega | assumption | decide) only [e_Re_implication_5, e_Re_implication_6, e_Re_implication_9, e_Re_implication_11, e_Re_implication_14, e_Re_implication_15, ev_rm_n, ev_rm_i, ev_rm_r, ev_rm_l, ev_ok_n, ev_ok_i, ev_ok_r, Option.toList_some, Option.toList_none, List.cons_append, List.nil_append, true_and, and_true, true_or, or_true, reduceIte, Nat.reduceEqDiff, if_true, if_false, cg_Dp_rc, cg_Dp_text, cg_Dp_circuit, cg_Dp_reader, cg_Dp_current, cg_Dp_working, cg_Dp_saturator, cg_Dp_table, cg_Te_rc, cg_Te_bytes, cg_Te_length, cp_Te_length, cg_Ci_rc, cg_Ci_kinds, cg_Ci_firsts, cg_Ci_seconds, cg_Ci_inputVariables, cg_Ci_names, cg_Ci_nameLengths, cg_Ci_size, cp_Ci_size, cg_Ci_inputs, cp_Ci_inputs, cg_Re_rc, cg_Re_text, cg_Re_circuit, cg_Re_token, cp_Re_token, cg_Re_start, cp_Re_start, cg_Re_next, cp_Re_next, cg_Re_open, cp_Re_open, cg_Re_fault, cp_Re_fault, cg_Re_faultPlace, cp_Re_faultPlace, cg_Sa_rc, cg_Sa_circuit, cg_Sa_before, cg_Sa_trueBranches, cg_Sa_falseBranches, cg_Sa_tallies, cg_Sa_mostSteps, cp_Sa_mostSteps, cg_Sa_spent, cp_Sa_spent, cg_Ta_rc, cg_Ta_circuit, cg_Ta_words, cr_kinds, cw_kinds, cr_firsts, cw_firsts, cr_seconds, cw_seconds, cr_inputVariables, cw_inputVariables, cr_nameLengths, cw_nameLengths, cr_tallies, cw_tallies, cr_bytes, cw_bytes, cr_words, cw_words, cl_tallies, cr_names, cr_trueB, cr_falseB, cr_name, cw_name, cq_rc, cq_st, cq_size, cq_classes, cq_contradiction, cqp_size, cqp_classes, cqp_contradiction, cq_rd, cq_wr, cq_copy, cl_s_1, cl_s_2, cl_ar_1, cl_ar_2, cl_w_1, cl_w_2, c_reLookF, n11, if_false]
    exact hQ τ3 u q1 (fun z => absurd z hz) q3
theorem c_reCloseF {d : Nat} (h : ¬ τ.1 34 6 = 0) : ev_C X (d + 1) m_Re_close [.ref (B + 34)] (cl_put B τ g) Q ↔ Q none (cl_put B τ g) := by
  show ev_R X (d + 1) m_Re_close 0 [some (.ref (B + 34))] [] (cl_put B τ g) Q ↔ _
  have n6 : ¬ (0 : Int32) = 6 := by decide
  simp (disch := first | exact ev_ok_i _ | exact ev_ok_r _ | exact ev_ok_n | omega | assumption | decide) only [e_Re_close_0, e_Re_close_1, e_Re_close_4, e_Re_close_6, e_Re_close_9, e_Re_close_10, e_Re_close_11, e_Re_close_12, e_Re_close_15, e_Re_close_18, e_Re_close_19, ev_rm_n, ev_rm_i, ev_rm_r, ev_rm_l, ev_ok_n, ev_ok_i, ev_ok_r, Option.toList_some, Option.toList_none, List.cons_append, List.nil_append, true_and, and_true, true_or, or_true, reduceIte, Nat.reduceEqDiff, if_true, if_false, cg_Dp_rc, cg_Dp_text, cg_Dp_circuit, cg_Dp_reader, cg_Dp_current, cg_Dp_working, cg_Dp_saturator, cg_Dp_table, cg_Te_rc, cg_Te_bytes, cg_Te_length, cp_Te_length, cg_Ci_rc, cg_Ci_kinds, cg_Ci_firsts, cg_Ci_seconds, cg_Ci_inputVariables, cg_Ci_names, cg_Ci_nameLengths, cg_Ci_size, cp_Ci_size, cg_Ci_inputs, cp_Ci_inputs, cg_Re_rc, cg_Re_text, cg_Re_circuit, cg_Re_token, cp_Re_token, cg_Re_start, cp_Re_start, cg_Re_next, cp_Re_next, cg_Re_open, cp_Re_open, cg_Re_fault, cp_Re_fault, cg_Re_faultPlace, cp_Re_faultPlace, cg_Sa_rc, cg_Sa_circuit, cg_Sa_before, cg_Sa_trueBranches, cg_Sa_falseBranches, cg_Sa_tallies, cg_Sa_mostSteps, cp_Sa_mostSteps, cg_Sa_spent, cp_Sa_spent, cg_Ta_rc, cg_Ta_circuit, cg_Ta_words, cr_kinds, cw_kinds, cr_firsts, cw_firsts, cr_seconds, cw_seconds, cr_inputVariables, cw_inputVariables, cr_nameLengths, cw_nameLengths, cr_tallies, cw_tallies, cr_bytes, cw_bytes, cr_words, cw_words, cl_tallies, cr_names, cr_trueB, cr_falseB, cr_name, cw_name, cq_rc, cq_st, cq_size, cq_classes, cq_contradiction, cqp_size, cqp_classes, cqp_contradiction, cq_rd, cq_wr, cq_copy, cl_s_1, cl_s_2, cl_ar_1, cl_ar_2, cl_w_1, cl_w_2, c_reLookF, n6, if_false, c_refuse, h]
theorem c_reClose {d : Nat} {s : sp_P} (hX : cl_TX X B g) (hP : cl_P τ x s) (hok : sp_pok x n0 s) (h0 : pF s = 0) (ho : 1 ≤ pO s) (hF : ¬ pF (sp_look x s) = 0 → ∀ τ2, cl_P τ2 x (sp_look x s) → cl_ke cl_JR τ τ2 → Q none (cl_put B τ2 g)) (hY : pF (sp_look x s) = 0 → tK x s = 41 → ∀ τ2, cl_P τ2 x (sp_cls1 (sp_pass x s)) → cl_ke cl_JR τ τ2 → Q none (cl_put B τ2 g)) (hN : pF (sp_look x s) = 0 → ¬ tK x s = 41 → ∀ τ2, cl_P τ2 x (sp_fail s 2 (tS x s)) → cl_ke cl_JR τ τ2 → Q none (cl_put B τ2 g)) : ev_C X (d + 7) m_Re_close [.ref (B + 34)] (cl_put B τ g) Q := by
  show ev_R X (d + 7) m_Re_close 0 [some (.ref (B + 34))] [] (cl_put B τ g) Q
  have hi24 := hok.1.1.2.2
  have kd : cs_kd (tK x s) := sp_tw_kd x _
  have kl := cs_k_lt (tK x s)
  simp (disch := first | exact ev_ok_i _ | exact ev_ok_r _ | exact ev_ok_n | omega | assumption | decide) only [e_Re_close_0, e_Re_close_1, ev_rm_n, ev_rm_i, ev_rm_r, ev_rm_l, ev_ok_n, ev_ok_i, ev_ok_r, Option.toList_some, Option.toList_none, List.cons_append, List.nil_append, true_and, and_true, true_or, or_true, reduceIte, Nat.reduceEqDiff, if_true, if_false, cg_Dp_rc, cg_Dp_text, cg_Dp_circuit, cg_Dp_reader, cg_Dp_current, cg_Dp_working, cg_Dp_saturator, cg_Dp_table, cg_Te_rc, cg_Te_bytes, cg_Te_length, cp_Te_length, cg_Ci_rc, cg_Ci_kinds, cg_Ci_firsts, cg_Ci_seconds, cg_Ci_inputVariables, cg_Ci_names, cg_Ci_nameLengths, cg_Ci_size, cp_Ci_size, cg_Ci_inputs, cp_Ci_inputs, cg_Re_rc, cg_Re_text, cg_Re_circuit, cg_Re_token, cp_Re_token, cg_Re_start, cp_Re_start, cg_Re_next, cp_Re_next, cg_Re_open, cp_Re_open, cg_Re_fault, cp_Re_fault, cg_Re_faultPlace, cp_Re_faultPlace, cg_Sa_rc, cg_Sa_circuit, cg_Sa_before, cg_Sa_trueBranches, cg_Sa_falseBranches, cg_Sa_tallies, cg_Sa_mostSteps, cp_Sa_mostSteps, cg_Sa_spent, cp_Sa_spent, cg_Ta_rc, cg_Ta_circuit, cg_Ta_words, cr_kinds, cw_kinds, cr_firsts, cw_firsts, cr_seconds, cw_seconds, cr_inputVariables, cw_inputVariables, cr_nameLengths, cw_nameLengths, cr_tallies, cw_tallies, cr_bytes, cw_bytes, cr_words, cw_words, cl_tallies, cr_names, cr_trueB, cr_falseB, cr_name, cw_name, cq_rc, cq_st, cq_size, cq_classes, cq_contradiction, cqp_size, cqp_classes, cqp_contradiction, cq_rd, cq_wr, cq_copy, cl_s_1, cl_s_2, cl_ar_1, cl_ar_2, cl_w_1, cl_w_2]
  refine c_reLook hX hP hok h0 (fun τ2 p1 p2 p3 p4 => ?_)
  have k1 : cl_ke cl_JR τ τ2 := cl_ke_mo p4 (fun i z => cl_J4_R z)
  by_cases hl : pF (sp_look x s) = 0
  · have el := sp_look_e hl
    have hL := p3 hl
    rw [el] at p1
    have h6' : τ2.1 34 6 = 0 := by rw [p1.2.1, h0]; rfl
    rw [if_pos hl]
    have c6 : nI (cs_k (tK x s)) = 6 ↔ cs_k (tK x s) = 6 := nI_eq (b := 6) (by omega) (by decide)
    simp (disch := first | exact ev_ok_i _ | exact ev_ok_r _ | exact ev_ok_n | omega | assumption | decide) only [e_Re_close_4, e_Re_close_6, ev_rm_n, ev_rm_i, ev_rm_r, ev_rm_l, ev_ok_n, ev_ok_i, ev_ok_r, Option.toList_some, Option.toList_none, List.cons_append, List.nil_append, true_and, and_true, true_or, or_true, reduceIte, Nat.reduceEqDiff, if_true, if_false, c6]
    by_cases ht : tK x s = 41
    · have hk : cs_k (tK x s) = 6 := by rw [ht]; decide
      have hT := cl_P_take hi24 p1 hL h0
      have h5 := (hT.2.2.2 h0).2.1
      have h5' : (cl_s τ2 34 2 0).1 34 5 = nI (pO s) := h5
      simp only [cl_s_1, if_true, upd_a, Nat.reduceEqDiff, if_false] at h5'
      simp (disch := first | exact ev_ok_i _ | exact ev_ok_r _ | exact ev_ok_n | omega | assumption | decide) only [hk, if_true, e_Re_close_20, e_Re_close_21, e_Re_close_24, e_Re_close_25, e_Re_close_26, e_Re_close_27, e_Re_close_30, e_Re_close_31, e_Re_close_32, e_Re_close_35, ev_rm_n, ev_rm_i, ev_rm_r, ev_rm_l, ev_ok_n, ev_ok_i, ev_ok_r, Option.toList_some, Option.toList_none, List.cons_append, List.nil_append, true_and, and_true, true_or, or_true, reduceIte, Nat.reduceEqDiff, if_true, if_false, cg_Dp_rc, cg_Dp_text, cg_Dp_circuit, cg_Dp_reader, cg_Dp_current, cg_Dp_working, cg_Dp_saturator, cg_Dp_table, cg_Te_rc, cg_Te_bytes, cg_Te_length, cp_Te_length, cg_Ci_rc, cg_Ci_kinds, cg_Ci_firsts, cg_Ci_seconds, cg_Ci_inputVariables, cg_Ci_names, cg_Ci_nameLengths, cg_Ci_size, cp_Ci_size, cg_Ci_inputs, cp_Ci_inputs, cg_Re_rc, cg_Re_text, cg_Re_circuit, cg_Re_token, cp_Re_token, cg_Re_start, cp_Re_start, cg_Re_next, cp_Re_next, cg_Re_open, cp_Re_open, cg_Re_fault, cp_Re_fault, cg_Re_faultPlace, cp_Re_faultPlace, cg_Sa_rc, cg_Sa_circuit, cg_Sa_before, cg_Sa_trueBranches, cg_Sa_falseBranches, cg_Sa_tallies, cg_Sa_mostSteps, cp_Sa_mostSteps, cg_Sa_spent, cp_Sa_spent, cg_Ta_rc, cg_Ta_circuit, cg_Ta_words, cr_kinds, cw_kinds, cr_firsts, cw_firsts, cr_seconds, cw_seconds, cr_inputVariables, cw_inputVariables, cr_nameLengths, cw_nameLengths, cr_tallies, cw_tallies, cr_bytes, cw_bytes, cr_words, cw_words, cl_tallies, cr_names, cr_trueB, cr_falseB, cr_name, cw_name, cq_rc, cq_st, cq_size, cq_classes, cq_contradiction, cqp_size, cqp_classes, cqp_contradiction, cq_rd, cq_wr, cq_copy, cl_s_1, cl_s_2, cl_ar_1, cl_ar_2, cl_w_1, cl_w_2, c_take2, upd_a, Nat.reduceEqDiff, if_false]
      refine hY hl ht _ (cl_P_cls (s := sp_pass x s) hi24 hT (fun _ => ho) _ (fun _ => ?_)) (cl_ke_tr k1 (cl_ke_tr (cl_ke_s (S := cl_JR) τ2 2 0 (by decide)) (cl_ke_s _ 5 _ (by decide))))
      rw [h5', show (1 : Int32) = nI 1 from rfl, nL_sub ho]
      rfl
    · have hk : ¬ cs_k (tK x s) = 6 := fun z => ht ((cs_k_inj kd (by unfold cs_kd; simp)).mp (z.trans (by decide : 6 = cs_k 41)))
      simp (disch := first | exact ev_ok_i _ | exact ev_ok_r _ | exact ev_ok_n | omega | assumption | decide) only [hk, if_false, e_Re_close_9, e_Re_close_10, e_Re_close_11, e_Re_close_12, e_Re_close_15, e_Re_close_18, e_Re_close_19, ev_rm_n, ev_rm_i, ev_rm_r, ev_rm_l, ev_ok_n, ev_ok_i, ev_ok_r, Option.toList_some, Option.toList_none, List.cons_append, List.nil_append, true_and, and_true, true_or, or_true, reduceIte, Nat.reduceEqDiff, if_true, if_false, cg_Dp_rc, cg_Dp_text, cg_Dp_circuit, cg_Dp_reader, cg_Dp_current, cg_Dp_working, cg_Dp_saturator, cg_Dp_table, cg_Te_rc, cg_Te_bytes, cg_Te_length, cp_Te_length, cg_Ci_rc, cg_Ci_kinds, cg_Ci_firsts, cg_Ci_seconds, cg_Ci_inputVariables, cg_Ci_names, cg_Ci_nameLengths, cg_Ci_size, cp_Ci_size, cg_Ci_inputs, cp_Ci_inputs, cg_Re_rc, cg_Re_text, cg_Re_circuit, cg_Re_token, cp_Re_token, cg_Re_start, cp_Re_start, cg_Re_next, cp_Re_next, cg_Re_open, cp_Re_open, cg_Re_fault, cp_Re_fault, cg_Re_faultPlace, cp_Re_faultPlace, cg_Sa_rc, cg_Sa_circuit, cg_Sa_before, cg_Sa_trueBranches, cg_Sa_falseBranches, cg_Sa_tallies, cg_Sa_mostSteps, cp_Sa_mostSteps, cg_Sa_spent, cp_Sa_spent, cg_Ta_rc, cg_Ta_circuit, cg_Ta_words, cr_kinds, cw_kinds, cr_firsts, cw_firsts, cr_seconds, cw_seconds, cr_inputVariables, cw_inputVariables, cr_nameLengths, cw_nameLengths, cr_tallies, cw_tallies, cr_bytes, cw_bytes, cr_words, cw_words, cl_tallies, cr_names, cr_trueB, cr_falseB, cr_name, cw_name, cq_rc, cq_st, cq_size, cq_classes, cq_contradiction, cqp_size, cqp_classes, cqp_contradiction, cq_rd, cq_wr, cq_copy, cl_s_1, cl_s_2, cl_ar_1, cl_ar_2, cl_w_1, cl_w_2, c_refuse, p2, h6', if_true]
      have kk : cl_ke cl_J4 τ2 (cl_s (cl_s τ2 34 6 2) 34 7 (nI (tS x s))) := cl_ke_tr (cl_ke_s τ2 6 _ rfl) (cl_ke_s _ 7 _ rfl)
      refine hN hl ht _ (cl_P_fail hi24 p1.1 h0 (by decide) kk ?_ ?_) (cl_ke_tr k1 (cl_ke_mo kk (fun i z => cl_J4_R z)))
      · simp only [cl_s_1, if_true, upd_a, Nat.reduceEqDiff, if_false]; rfl
      · simp only [cl_s_1, if_true, upd_a]
  · rw [if_neg hl]
    have n6 : ¬ (0 : Int32) = 6 := by decide
    have x6 := cl_P_f6 p1 hl (sp_look_fl (sp_fl_0 h0))
    simp (disch := first | exact ev_ok_i _ | exact ev_ok_r _ | exact ev_ok_n | omega | assumption | decide) only [e_Re_close_4, e_Re_close_6, e_Re_close_9, e_Re_close_10, e_Re_close_11, e_Re_close_12, e_Re_close_15, e_Re_close_18, e_Re_close_19, ev_rm_n, ev_rm_i, ev_rm_r, ev_rm_l, ev_ok_n, ev_ok_i, ev_ok_r, Option.toList_some, Option.toList_none, List.cons_append, List.nil_append, true_and, and_true, true_or, or_true, reduceIte, Nat.reduceEqDiff, if_true, if_false, cg_Dp_rc, cg_Dp_text, cg_Dp_circuit, cg_Dp_reader, cg_Dp_current, cg_Dp_working, cg_Dp_saturator, cg_Dp_table, cg_Te_rc, cg_Te_bytes, cg_Te_length, cp_Te_length, cg_Ci_rc, cg_Ci_kinds, cg_Ci_firsts, cg_Ci_seconds, cg_Ci_inputVariables, cg_Ci_names, cg_Ci_nameLengths, cg_Ci_size, cp_Ci_size, cg_Ci_inputs, cp_Ci_inputs, cg_Re_rc, cg_Re_text, cg_Re_circuit, cg_Re_token, cp_Re_token, cg_Re_start, cp_Re_start, cg_Re_next, cp_Re_next, cg_Re_open, cp_Re_open, cg_Re_fault, cp_Re_fault, cg_Re_faultPlace, cp_Re_faultPlace, cg_Sa_rc, cg_Sa_circuit, cg_Sa_before, cg_Sa_trueBranches, cg_Sa_falseBranches, cg_Sa_tallies, cg_Sa_mostSteps, cp_Sa_mostSteps, cg_Sa_spent, cp_Sa_spent, cg_Ta_rc, cg_Ta_circuit, cg_Ta_words, cr_kinds, cw_kinds, cr_firsts, cw_firsts, cr_seconds, cw_seconds, cr_inputVariables, cw_inputVariables, cr_nameLengths, cw_nameLengths, cr_tallies, cw_tallies, cr_bytes, cw_bytes, cr_words, cw_words, cl_tallies, cr_names, cr_trueB, cr_falseB, cr_name, cw_name, cq_rc, cq_st, cq_size, cq_classes, cq_contradiction, cqp_size, cqp_classes, cqp_contradiction, cq_rd, cq_wr, cq_copy, cl_s_1, cl_s_2, cl_ar_1, cl_ar_2, cl_w_1, cl_w_2, n6, if_false, c_refuse, x6]
    exact hF hl τ2 p1 k1
theorem c_PA5 (ihA : cl_PA X B g x n0 f) (hX : cl_TX X B g) {s : sp_P} {e : Nat} (hok : sp_pok x n0 s) (h0 : pF s = 0) (hf : 8 * (x.2 - s.1) + 7 - 5 ≤ f + 1) (he : 6 * (40 - pO s) + (5 - 5) + 12 ≤ e) (hP : cl_P τ x s) (hQ : ∀ τ2 u, cl_P τ2 x (sp_pr x (f + 1) 5 none s).2 → (pF (sp_pr x (f + 1) 5 none s).2 = 0 → u = nI (sp_pr x (f + 1) 5 none s).1) → cl_ke cl_JR τ τ2 → Q (some (.int u)) (cl_put B τ2 g)) : ev_C X e m_Re_operand [.ref (B + 34)] (cl_put B τ g) Q := by
  obtain ⟨d, rfl⟩ : ∃ d, e = d + 12 := ⟨e - 12, by omega⟩
  show ev_R X (d + 12) m_Re_operand 0 [some (.ref (B + 34)), none] [] (cl_put B τ g) Q
  have hpos := hok.2.2.1
  have hi24 := hok.1.1.2.2
  have ho := hok.2.2.2.1
  have i10 : ¬ (1 : Int32) = 0 := by decide
  have hfl := sp_fl_0 h0
  have kd : cs_kd (tK x s) := sp_tw_kd x _
  have kl := cs_k_lt (tK x s)
  have htl : tS x s + tZ x s ≤ x.2 := (sp_tw_sz (sp_ts_le hok.2.2.1).2).1
  have hne : ∀ k : Int32, tK x s = k → ¬ k = 256 → s.1 + 1 ≤ tS x s + tZ x s := fun k e1 e2 => sp_tok_lt hok (by rw [e1]; exact e2)
  rw [sp_pr, if_pos rfl] at hQ
  simp (disch := first | exact ev_ok_i _ | exact ev_ok_r _ | exact ev_ok_n | omega | assumption | decide) only [e_Re_operand_0, e_Re_operand_1, e_Re_operand_2, ev_rm_n, ev_rm_i, ev_rm_r, ev_rm_l, ev_ok_n, ev_ok_i, ev_ok_r, Option.toList_some, Option.toList_none, List.cons_append, List.nil_append, true_and, and_true, true_or, or_true, reduceIte, Nat.reduceEqDiff, if_true, if_false]
  rw [e_Re_operand_3]
  simp (disch := first | exact ev_ok_i _ | exact ev_ok_r _ | exact ev_ok_n | omega | assumption | decide) only [ev_rm_n, ev_rm_i, ev_rm_r, ev_rm_l, ev_ok_n, ev_ok_i, ev_ok_r, Option.toList_some, Option.toList_none, List.cons_append, List.nil_append, true_and, and_true, true_or, or_true, reduceIte, Nat.reduceEqDiff, if_true, if_false, cg_Dp_rc, cg_Dp_text, cg_Dp_circuit, cg_Dp_reader, cg_Dp_current, cg_Dp_working, cg_Dp_saturator, cg_Dp_table, cg_Te_rc, cg_Te_bytes, cg_Te_length, cp_Te_length, cg_Ci_rc, cg_Ci_kinds, cg_Ci_firsts, cg_Ci_seconds, cg_Ci_inputVariables, cg_Ci_names, cg_Ci_nameLengths, cg_Ci_size, cp_Ci_size, cg_Ci_inputs, cp_Ci_inputs, cg_Re_rc, cg_Re_text, cg_Re_circuit, cg_Re_token, cp_Re_token, cg_Re_start, cp_Re_start, cg_Re_next, cp_Re_next, cg_Re_open, cp_Re_open, cg_Re_fault, cp_Re_fault, cg_Re_faultPlace, cp_Re_faultPlace, cg_Sa_rc, cg_Sa_circuit, cg_Sa_before, cg_Sa_trueBranches, cg_Sa_falseBranches, cg_Sa_tallies, cg_Sa_mostSteps, cp_Sa_mostSteps, cg_Sa_spent, cp_Sa_spent, cg_Ta_rc, cg_Ta_circuit, cg_Ta_words, cr_kinds, cw_kinds, cr_firsts, cw_firsts, cr_seconds, cw_seconds, cr_inputVariables, cw_inputVariables, cr_nameLengths, cw_nameLengths, cr_tallies, cw_tallies, cr_bytes, cw_bytes, cr_words, cw_words, cl_tallies, cr_names, cr_trueB, cr_falseB, cr_name, cw_name, cq_rc, cq_st, cq_size, cq_classes, cq_contradiction, cqp_size, cqp_classes, cqp_contradiction, cq_rd, cq_wr, cq_copy, cl_s_1, cl_s_2, cl_ar_1, cl_ar_2, cl_w_1, cl_w_2]
  refine c_reLook (d := d + 5) hX hP hok h0 (fun τ2 p1 p2 p3 p4 => ?_)
  have k1 : cl_ke cl_JR τ τ2 := cl_ke_mo p4 (fun i z => cl_J4_R z)
  by_cases hl : pF (sp_look x s) = 0
  · have el := sp_look_e hl
    have hL := p3 hl
    rw [el] at p1 hQ
    rw [if_neg (fun z => z h0)] at hQ
    rw [if_pos hl]
    simp (disch := first | exact ev_ok_i _ | exact ev_ok_r _ | exact ev_ok_n | omega | assumption | decide) only [ev_rm_n, ev_rm_i, ev_rm_r, ev_rm_l, ev_ok_n, ev_ok_i, ev_ok_r, Option.toList_some, Option.toList_none, List.cons_append, List.nil_append, true_and, and_true, true_or, or_true, reduceIte, Nat.reduceEqDiff, if_true, if_false]
    rw [e_Re_operand_6]
    have h6' : τ2.1 34 6 = 0 := by rw [p1.2.1, h0]; rfl
    have cq : ∀ (v : Nat) (k : Int32), v < 13 → cs_kd k → cs_k k = v → (nI (cs_k (tK x s)) = nI v ↔ tK x s = k) := fun v k hv hk hkv => by
      rw [nI_eq (by omega) (by omega), ← hkv]
      exact cs_k_inj kd hk
    have q2 : nI (cs_k (tK x s)) = 2 ↔ tK x s = 257 := cq 2 257 (by decide) (by unfold cs_kd; simp) (by decide)
    have q3 : nI (cs_k (tK x s)) = 3 ↔ tK x s = 258 := cq 3 258 (by decide) (by unfold cs_kd; simp) (by decide)
    have q4 : nI (cs_k (tK x s)) = 4 ↔ tK x s = 259 := cq 4 259 (by decide) (by unfold cs_kd; simp) (by decide)
    have q5 : nI (cs_k (tK x s)) = 5 ↔ tK x s = 40 := cq 5 40 (by decide) (by unfold cs_kd; simp) (by decide)
    have q6 : nI (cs_k (tK x s)) = 6 ↔ tK x s = 41 := cq 6 41 (by decide) (by unfold cs_kd; simp) (by decide)
    have q7 : nI (cs_k (tK x s)) = 7 ↔ tK x s = 126 := cq 7 126 (by decide) (by unfold cs_kd; simp) (by decide)
    simp only [q2, q3, q4, q5, q6, q7]
    have hT := cl_P_take hi24 p1 hL h0
    have kT : cl_ke cl_JR τ2 (cl_s τ2 34 2 0) := cl_ke_s (S := cl_JR) τ2 2 0 (by decide)
    have eF : (sp_fail s 3 (tS x s)).2.1 = (sp_fail (sp_pass x s) 3 (tS x s)).2.1 := by rw [sp_fail_0 h0, sp_fail_0 (s := sp_pass x s) h0]
    have eC : pC (sp_fail s 3 (tS x s)) = pC (sp_fail (sp_pass x s) 3 (tS x s)) := by rw [sp_fail_c, sp_fail_c]; rfl
    have hf3 : ¬ pF (sp_fail (sp_pass x s) 3 (tS x s)) = 0 := sp_fail_f (by decide)
    have hfs : ¬ pF (sp_fail s 3 (tS x s)) = 0 := sp_fail_f (by decide)
    by_cases t7 : tK x s = 126
    · rw [if_pos t7] at hQ
      have hm := hne _ t7 (by decide)
      simp only [t7, if_true, if_neg (show ¬ (126 : Int32) = 257 by decide), if_neg (show ¬ (126 : Int32) = 258 by decide), if_neg (show ¬ (126 : Int32) = 259 by decide), if_neg (show ¬ (126 : Int32) = 40 by decide), if_neg (show ¬ (126 : Int32) = 41 by decide)]
      simp (disch := first | exact ev_ok_i _ | exact ev_ok_r _ | exact ev_ok_n | omega | assumption | decide) only [e_Re_operand_44, e_Re_operand_45, e_Re_operand_46, ev_rm_n, ev_rm_i, ev_rm_r, ev_rm_l, ev_ok_n, ev_ok_i, ev_ok_r, Option.toList_some, Option.toList_none, List.cons_append, List.nil_append, true_and, and_true, true_or, or_true, reduceIte, Nat.reduceEqDiff, if_true, if_false, cg_Dp_rc, cg_Dp_text, cg_Dp_circuit, cg_Dp_reader, cg_Dp_current, cg_Dp_working, cg_Dp_saturator, cg_Dp_table, cg_Te_rc, cg_Te_bytes, cg_Te_length, cp_Te_length, cg_Ci_rc, cg_Ci_kinds, cg_Ci_firsts, cg_Ci_seconds, cg_Ci_inputVariables, cg_Ci_names, cg_Ci_nameLengths, cg_Ci_size, cp_Ci_size, cg_Ci_inputs, cp_Ci_inputs, cg_Re_rc, cg_Re_text, cg_Re_circuit, cg_Re_token, cp_Re_token, cg_Re_start, cp_Re_start, cg_Re_next, cp_Re_next, cg_Re_open, cp_Re_open, cg_Re_fault, cp_Re_fault, cg_Re_faultPlace, cp_Re_faultPlace, cg_Sa_rc, cg_Sa_circuit, cg_Sa_before, cg_Sa_trueBranches, cg_Sa_falseBranches, cg_Sa_tallies, cg_Sa_mostSteps, cp_Sa_mostSteps, cg_Sa_spent, cp_Sa_spent, cg_Ta_rc, cg_Ta_circuit, cg_Ta_words, cr_kinds, cw_kinds, cr_firsts, cw_firsts, cr_seconds, cw_seconds, cr_inputVariables, cw_inputVariables, cr_nameLengths, cw_nameLengths, cr_tallies, cw_tallies, cr_bytes, cw_bytes, cr_words, cw_words, cl_tallies, cr_names, cr_trueB, cr_falseB, cr_name, cw_name, cq_rc, cq_st, cq_size, cq_classes, cq_contradiction, cqp_size, cqp_classes, cqp_contradiction, cq_rd, cq_wr, cq_copy, cl_s_1, cl_s_2, cl_ar_1, cl_ar_2, cl_w_1, cl_w_2, c_take2, hL.2.1]
      rw [e_Re_operand_49]
      simp (disch := first | exact ev_ok_i _ | exact ev_ok_r _ | exact ev_ok_n | omega | assumption | decide) only [ev_rm_n, ev_rm_i, ev_rm_r, ev_rm_l, ev_ok_n, ev_ok_i, ev_ok_r, Option.toList_some, Option.toList_none, List.cons_append, List.nil_append, true_and, and_true, true_or, or_true, reduceIte, Nat.reduceEqDiff, if_true, if_false, cg_Dp_rc, cg_Dp_text, cg_Dp_circuit, cg_Dp_reader, cg_Dp_current, cg_Dp_working, cg_Dp_saturator, cg_Dp_table, cg_Te_rc, cg_Te_bytes, cg_Te_length, cp_Te_length, cg_Ci_rc, cg_Ci_kinds, cg_Ci_firsts, cg_Ci_seconds, cg_Ci_inputVariables, cg_Ci_names, cg_Ci_nameLengths, cg_Ci_size, cp_Ci_size, cg_Ci_inputs, cp_Ci_inputs, cg_Re_rc, cg_Re_text, cg_Re_circuit, cg_Re_token, cp_Re_token, cg_Re_start, cp_Re_start, cg_Re_next, cp_Re_next, cg_Re_open, cp_Re_open, cg_Re_fault, cp_Re_fault, cg_Re_faultPlace, cp_Re_faultPlace, cg_Sa_rc, cg_Sa_circuit, cg_Sa_before, cg_Sa_trueBranches, cg_Sa_falseBranches, cg_Sa_tallies, cg_Sa_mostSteps, cp_Sa_mostSteps, cg_Sa_spent, cp_Sa_spent, cg_Ta_rc, cg_Ta_circuit, cg_Ta_words, cr_kinds, cw_kinds, cr_firsts, cw_firsts, cr_seconds, cw_seconds, cr_inputVariables, cw_inputVariables, cr_nameLengths, cw_nameLengths, cr_tallies, cw_tallies, cr_bytes, cw_bytes, cr_words, cw_words, cl_tallies, cr_names, cr_trueB, cr_falseB, cr_name, cw_name, cq_rc, cq_st, cq_size, cq_classes, cq_contradiction, cqp_size, cqp_classes, cqp_contradiction, cq_rd, cq_wr, cq_copy, cl_s_1, cl_s_2, cl_ar_1, cl_ar_2, cl_w_1, cl_w_2]
      refine c_reOpens (s := sp_pass x s) (d := d + 10) hi24 hT h0 ho (fun e40 τ3 y1 y2 => ?_) (fun e40 τ3 y1 y2 => ?_)
      · have e40' : pO s = 40 := e40
        rw [if_pos e40'] at hQ
        simp (disch := first | exact ev_ok_i _ | exact ev_ok_r _ | exact ev_ok_n | omega | assumption | decide) only [e_Re_operand_52, e_Re_operand_72, e_Re_operand_73, ev_rm_n, ev_rm_i, ev_rm_r, ev_rm_l, ev_ok_n, ev_ok_i, ev_ok_r, Option.toList_some, Option.toList_none, List.cons_append, List.nil_append, true_and, and_true, true_or, or_true, reduceIte, Nat.reduceEqDiff, if_true, if_false]
        exact hQ τ3 _ (cl_P_cg eC eF hf3 y1) (fun z => absurd z hfs) (cl_ke_tr k1 (cl_ke_tr kT (cl_ke_mo y2 (fun i z => cl_J4_R z))))
      · have e40' : ¬ pO s = 40 := e40
        rw [if_neg e40'] at hQ
        have hok2 := sp_opn_ok hok e40'
        have k2 : cl_ke cl_JR τ τ3 := cl_ke_tr k1 (cl_ke_tr kT (cl_ke_mo y2 (fun i z => cl_J4_R z)))
        simp (disch := first | exact ev_ok_i _ | exact ev_ok_r _ | exact ev_ok_n | omega | assumption | decide) only [e_Re_operand_52, e_Re_operand_55, ev_rm_n, ev_rm_i, ev_rm_r, ev_rm_l, ev_ok_n, ev_ok_i, ev_ok_r, Option.toList_some, Option.toList_none, List.cons_append, List.nil_append, true_and, and_true, true_or, or_true, reduceIte, Nat.reduceEqDiff, if_true, if_false, i10, if_false]
        rw [e_Re_operand_56]
        simp (disch := first | exact ev_ok_i _ | exact ev_ok_r _ | exact ev_ok_n | omega | assumption | decide) only [ev_rm_n, ev_rm_i, ev_rm_r, ev_rm_l, ev_ok_n, ev_ok_i, ev_ok_r, Option.toList_some, Option.toList_none, List.cons_append, List.nil_append, true_and, and_true, true_or, or_true, reduceIte, Nat.reduceEqDiff, if_true, if_false, cg_Dp_rc, cg_Dp_text, cg_Dp_circuit, cg_Dp_reader, cg_Dp_current, cg_Dp_working, cg_Dp_saturator, cg_Dp_table, cg_Te_rc, cg_Te_bytes, cg_Te_length, cp_Te_length, cg_Ci_rc, cg_Ci_kinds, cg_Ci_firsts, cg_Ci_seconds, cg_Ci_inputVariables, cg_Ci_names, cg_Ci_nameLengths, cg_Ci_size, cp_Ci_size, cg_Ci_inputs, cp_Ci_inputs, cg_Re_rc, cg_Re_text, cg_Re_circuit, cg_Re_token, cp_Re_token, cg_Re_start, cp_Re_start, cg_Re_next, cp_Re_next, cg_Re_open, cp_Re_open, cg_Re_fault, cp_Re_fault, cg_Re_faultPlace, cp_Re_faultPlace, cg_Sa_rc, cg_Sa_circuit, cg_Sa_before, cg_Sa_trueBranches, cg_Sa_falseBranches, cg_Sa_tallies, cg_Sa_mostSteps, cp_Sa_mostSteps, cg_Sa_spent, cp_Sa_spent, cg_Ta_rc, cg_Ta_circuit, cg_Ta_words, cr_kinds, cw_kinds, cr_firsts, cw_firsts, cr_seconds, cw_seconds, cr_inputVariables, cw_inputVariables, cr_nameLengths, cw_nameLengths, cr_tallies, cw_tallies, cr_bytes, cw_bytes, cr_words, cw_words, cl_tallies, cr_names, cr_trueB, cr_falseB, cr_name, cw_name, cq_rc, cq_st, cq_size, cq_classes, cq_contradiction, cqp_size, cqp_classes, cqp_contradiction, cq_rd, cq_wr, cq_copy, cl_s_1, cl_s_2, cl_ar_1, cl_ar_2, cl_w_1, cl_w_2]
        refine ihA 5 (sp_opn x s) τ3 (d + 11) _ hok2 h0 (by decide) (by show 8 * (x.2 - (tS x s + tZ x s)) + 7 - 5 ≤ f; omega) (by show 6 * (40 - (pO s + 1)) + (5 - 5) + 12 ≤ d + 11; omega) y1 (fun τ4 u t1 t2 t3 => ?_)
        have hr := sp_pr_ok x n0 f 5 none (sp_opn x s) hok2 h0 (by decide) (fun _ => by show 8 * (x.2 - (tS x s + tZ x s)) + 7 - 5 ≤ f; omega) (fun v hv => by cases hv)
        generalize sp_pr x f 5 none (sp_opn x s) = r at hQ t1 t2 hr
        obtain ⟨r1, r2, r3⟩ := hr
        simp (disch := first | exact ev_ok_i _ | exact ev_ok_r _ | exact ev_ok_n | omega | assumption | decide) only [e_Re_operand_59, e_Re_operand_60, e_Re_operand_61, e_Re_operand_62, e_Re_operand_63, e_Re_operand_64, e_Re_operand_67, e_Re_operand_68, e_Re_operand_69, e_Re_operand_72, e_Re_operand_73, ev_rm_n, ev_rm_i, ev_rm_r, ev_rm_l, ev_ok_n, ev_ok_i, ev_ok_r, Option.toList_some, Option.toList_none, List.cons_append, List.nil_append, true_and, and_true, true_or, or_true, reduceIte, Nat.reduceEqDiff, if_true, if_false, cg_Dp_rc, cg_Dp_text, cg_Dp_circuit, cg_Dp_reader, cg_Dp_current, cg_Dp_working, cg_Dp_saturator, cg_Dp_table, cg_Te_rc, cg_Te_bytes, cg_Te_length, cp_Te_length, cg_Ci_rc, cg_Ci_kinds, cg_Ci_firsts, cg_Ci_seconds, cg_Ci_inputVariables, cg_Ci_names, cg_Ci_nameLengths, cg_Ci_size, cp_Ci_size, cg_Ci_inputs, cp_Ci_inputs, cg_Re_rc, cg_Re_text, cg_Re_circuit, cg_Re_token, cp_Re_token, cg_Re_start, cp_Re_start, cg_Re_next, cp_Re_next, cg_Re_open, cp_Re_open, cg_Re_fault, cp_Re_fault, cg_Re_faultPlace, cp_Re_faultPlace, cg_Sa_rc, cg_Sa_circuit, cg_Sa_before, cg_Sa_trueBranches, cg_Sa_falseBranches, cg_Sa_tallies, cg_Sa_mostSteps, cp_Sa_mostSteps, cg_Sa_spent, cp_Sa_spent, cg_Ta_rc, cg_Ta_circuit, cg_Ta_words, cr_kinds, cw_kinds, cr_firsts, cw_firsts, cr_seconds, cw_seconds, cr_inputVariables, cw_inputVariables, cr_nameLengths, cw_nameLengths, cr_tallies, cw_tallies, cr_bytes, cw_bytes, cr_words, cw_words, cl_tallies, cr_names, cr_trueB, cr_falseB, cr_name, cw_name, cq_rc, cq_st, cq_size, cq_classes, cq_contradiction, cqp_size, cqp_classes, cqp_contradiction, cq_rd, cq_wr, cq_copy, cl_s_1, cl_s_2, cl_ar_1, cl_ar_2, cl_w_1, cl_w_2]
        have hPc : cl_P (cl_s τ4 34 5 (τ4.1 34 5 - 1)) x (sp_cls1 r.2) := cl_P_cls r1.1.1.2.2 t1 (fun z => by
          have w2' : pO r.2 = pO s + 1 := (r3 z).2.1
          omega) _ (fun z => by
          have w2' : pO r.2 = pO s + 1 := (r3 z).2.1
          rw [((t1.2.2.2 z).2.1 : τ4.1 34 5 = nI (pO r.2)), show (1 : Int32) = nI 1 from rfl, nL_sub (by omega)])
        refine hQ _ _ hPc (fun z => ?_) (cl_ke_tr k2 (cl_ke_tr t3 (cl_ke_s (S := cl_JR) τ4 5 _ (by decide))))
        rw [t2 z, nL_x1]
    · rw [if_neg t7] at hQ
      by_cases t5 : tK x s = 40
      · rw [if_pos t5] at hQ
        have hm := hne _ t5 (by decide)
        simp only [t5, if_true, if_neg (show ¬ (40 : Int32) = 257 by decide), if_neg (show ¬ (40 : Int32) = 258 by decide), if_neg (show ¬ (40 : Int32) = 259 by decide)]
        simp (disch := first | exact ev_ok_i _ | exact ev_ok_r _ | exact ev_ok_n | omega | assumption | decide) only [e_Re_operand_74, e_Re_operand_75, e_Re_operand_76, ev_rm_n, ev_rm_i, ev_rm_r, ev_rm_l, ev_ok_n, ev_ok_i, ev_ok_r, Option.toList_some, Option.toList_none, List.cons_append, List.nil_append, true_and, and_true, true_or, or_true, reduceIte, Nat.reduceEqDiff, if_true, if_false, cg_Dp_rc, cg_Dp_text, cg_Dp_circuit, cg_Dp_reader, cg_Dp_current, cg_Dp_working, cg_Dp_saturator, cg_Dp_table, cg_Te_rc, cg_Te_bytes, cg_Te_length, cp_Te_length, cg_Ci_rc, cg_Ci_kinds, cg_Ci_firsts, cg_Ci_seconds, cg_Ci_inputVariables, cg_Ci_names, cg_Ci_nameLengths, cg_Ci_size, cp_Ci_size, cg_Ci_inputs, cp_Ci_inputs, cg_Re_rc, cg_Re_text, cg_Re_circuit, cg_Re_token, cp_Re_token, cg_Re_start, cp_Re_start, cg_Re_next, cp_Re_next, cg_Re_open, cp_Re_open, cg_Re_fault, cp_Re_fault, cg_Re_faultPlace, cp_Re_faultPlace, cg_Sa_rc, cg_Sa_circuit, cg_Sa_before, cg_Sa_trueBranches, cg_Sa_falseBranches, cg_Sa_tallies, cg_Sa_mostSteps, cp_Sa_mostSteps, cg_Sa_spent, cp_Sa_spent, cg_Ta_rc, cg_Ta_circuit, cg_Ta_words, cr_kinds, cw_kinds, cr_firsts, cw_firsts, cr_seconds, cw_seconds, cr_inputVariables, cw_inputVariables, cr_nameLengths, cw_nameLengths, cr_tallies, cw_tallies, cr_bytes, cw_bytes, cr_words, cw_words, cl_tallies, cr_names, cr_trueB, cr_falseB, cr_name, cw_name, cq_rc, cq_st, cq_size, cq_classes, cq_contradiction, cqp_size, cqp_classes, cqp_contradiction, cq_rd, cq_wr, cq_copy, cl_s_1, cl_s_2, cl_ar_1, cl_ar_2, cl_w_1, cl_w_2, c_take2, hL.2.1]
        rw [e_Re_operand_79]
        simp (disch := first | exact ev_ok_i _ | exact ev_ok_r _ | exact ev_ok_n | omega | assumption | decide) only [ev_rm_n, ev_rm_i, ev_rm_r, ev_rm_l, ev_ok_n, ev_ok_i, ev_ok_r, Option.toList_some, Option.toList_none, List.cons_append, List.nil_append, true_and, and_true, true_or, or_true, reduceIte, Nat.reduceEqDiff, if_true, if_false, cg_Dp_rc, cg_Dp_text, cg_Dp_circuit, cg_Dp_reader, cg_Dp_current, cg_Dp_working, cg_Dp_saturator, cg_Dp_table, cg_Te_rc, cg_Te_bytes, cg_Te_length, cp_Te_length, cg_Ci_rc, cg_Ci_kinds, cg_Ci_firsts, cg_Ci_seconds, cg_Ci_inputVariables, cg_Ci_names, cg_Ci_nameLengths, cg_Ci_size, cp_Ci_size, cg_Ci_inputs, cp_Ci_inputs, cg_Re_rc, cg_Re_text, cg_Re_circuit, cg_Re_token, cp_Re_token, cg_Re_start, cp_Re_start, cg_Re_next, cp_Re_next, cg_Re_open, cp_Re_open, cg_Re_fault, cp_Re_fault, cg_Re_faultPlace, cp_Re_faultPlace, cg_Sa_rc, cg_Sa_circuit, cg_Sa_before, cg_Sa_trueBranches, cg_Sa_falseBranches, cg_Sa_tallies, cg_Sa_mostSteps, cp_Sa_mostSteps, cg_Sa_spent, cp_Sa_spent, cg_Ta_rc, cg_Ta_circuit, cg_Ta_words, cr_kinds, cw_kinds, cr_firsts, cw_firsts, cr_seconds, cw_seconds, cr_inputVariables, cw_inputVariables, cr_nameLengths, cw_nameLengths, cr_tallies, cw_tallies, cr_bytes, cw_bytes, cr_words, cw_words, cl_tallies, cr_names, cr_trueB, cr_falseB, cr_name, cw_name, cq_rc, cq_st, cq_size, cq_classes, cq_contradiction, cqp_size, cqp_classes, cqp_contradiction, cq_rd, cq_wr, cq_copy, cl_s_1, cl_s_2, cl_ar_1, cl_ar_2, cl_w_1, cl_w_2]
        refine c_reOpens (s := sp_pass x s) (d := d + 10) hi24 hT h0 ho (fun e40 τ3 y1 y2 => ?_) (fun e40 τ3 y1 y2 => ?_)
        · have e40' : pO s = 40 := e40
          rw [if_pos e40'] at hQ
          simp (disch := first | exact ev_ok_i _ | exact ev_ok_r _ | exact ev_ok_n | omega | assumption | decide) only [e_Re_operand_82, e_Re_operand_94, e_Re_operand_95, ev_rm_n, ev_rm_i, ev_rm_r, ev_rm_l, ev_ok_n, ev_ok_i, ev_ok_r, Option.toList_some, Option.toList_none, List.cons_append, List.nil_append, true_and, and_true, true_or, or_true, reduceIte, Nat.reduceEqDiff, if_true, if_false]
          exact hQ τ3 _ (cl_P_cg eC eF hf3 y1) (fun z => absurd z hfs) (cl_ke_tr k1 (cl_ke_tr kT (cl_ke_mo y2 (fun i z => cl_J4_R z))))
        · have e40' : ¬ pO s = 40 := e40
          rw [if_neg e40'] at hQ
          have hok2 := sp_opn_ok hok e40'
          have k2 : cl_ke cl_JR τ τ3 := cl_ke_tr k1 (cl_ke_tr kT (cl_ke_mo y2 (fun i z => cl_J4_R z)))
          simp (disch := first | exact ev_ok_i _ | exact ev_ok_r _ | exact ev_ok_n | omega | assumption | decide) only [e_Re_operand_82, e_Re_operand_85, ev_rm_n, ev_rm_i, ev_rm_r, ev_rm_l, ev_ok_n, ev_ok_i, ev_ok_r, Option.toList_some, Option.toList_none, List.cons_append, List.nil_append, true_and, and_true, true_or, or_true, reduceIte, Nat.reduceEqDiff, if_true, if_false, i10, if_false]
          rw [e_Re_operand_86]
          simp (disch := first | exact ev_ok_i _ | exact ev_ok_r _ | exact ev_ok_n | omega | assumption | decide) only [ev_rm_n, ev_rm_i, ev_rm_r, ev_rm_l, ev_ok_n, ev_ok_i, ev_ok_r, Option.toList_some, Option.toList_none, List.cons_append, List.nil_append, true_and, and_true, true_or, or_true, reduceIte, Nat.reduceEqDiff, if_true, if_false, cg_Dp_rc, cg_Dp_text, cg_Dp_circuit, cg_Dp_reader, cg_Dp_current, cg_Dp_working, cg_Dp_saturator, cg_Dp_table, cg_Te_rc, cg_Te_bytes, cg_Te_length, cp_Te_length, cg_Ci_rc, cg_Ci_kinds, cg_Ci_firsts, cg_Ci_seconds, cg_Ci_inputVariables, cg_Ci_names, cg_Ci_nameLengths, cg_Ci_size, cp_Ci_size, cg_Ci_inputs, cp_Ci_inputs, cg_Re_rc, cg_Re_text, cg_Re_circuit, cg_Re_token, cp_Re_token, cg_Re_start, cp_Re_start, cg_Re_next, cp_Re_next, cg_Re_open, cp_Re_open, cg_Re_fault, cp_Re_fault, cg_Re_faultPlace, cp_Re_faultPlace, cg_Sa_rc, cg_Sa_circuit, cg_Sa_before, cg_Sa_trueBranches, cg_Sa_falseBranches, cg_Sa_tallies, cg_Sa_mostSteps, cp_Sa_mostSteps, cg_Sa_spent, cp_Sa_spent, cg_Ta_rc, cg_Ta_circuit, cg_Ta_words, cr_kinds, cw_kinds, cr_firsts, cw_firsts, cr_seconds, cw_seconds, cr_inputVariables, cw_inputVariables, cr_nameLengths, cw_nameLengths, cr_tallies, cw_tallies, cr_bytes, cw_bytes, cr_words, cw_words, cl_tallies, cr_names, cr_trueB, cr_falseB, cr_name, cw_name, cq_rc, cq_st, cq_size, cq_classes, cq_contradiction, cqp_size, cqp_classes, cqp_contradiction, cq_rd, cq_wr, cq_copy, cl_s_1, cl_s_2, cl_ar_1, cl_ar_2, cl_w_1, cl_w_2]
          refine ihA 0 (sp_opn x s) τ3 (d + 11) _ hok2 h0 (by decide) (by show 8 * (x.2 - (tS x s + tZ x s)) + 7 - 0 ≤ f; omega) (by show 6 * (40 - (pO s + 1)) + (5 - 0) + 12 ≤ d + 11; omega) y1 (fun τ4 u t1 t2 t3 => ?_)
          have hr := sp_pr_ok x n0 f 0 none (sp_opn x s) hok2 h0 (by decide) (fun _ => by show 8 * (x.2 - (tS x s + tZ x s)) + 7 - 0 ≤ f; omega) (fun v hv => by cases hv)
          have hrf : sp_fl (sp_pr x f 0 none (sp_opn x s)).2 := sp_pr_fl f 0 none (sp_opn x s) hfl
          have k3 : cl_ke cl_JR τ τ4 := cl_ke_tr k2 t3
          generalize sp_pr x f 0 none (sp_opn x s) = r at hQ t1 t2 hr hrf
          obtain ⟨r1, r2, r3⟩ := hr
          simp (disch := first | exact ev_ok_i _ | exact ev_ok_r _ | exact ev_ok_n | omega | assumption | decide) only [e_Re_operand_89, e_Re_operand_90, ev_rm_n, ev_rm_i, ev_rm_r, ev_rm_l, ev_ok_n, ev_ok_i, ev_ok_r, Option.toList_some, Option.toList_none, List.cons_append, List.nil_append, true_and, and_true, true_or, or_true, reduceIte, Nat.reduceEqDiff, if_true, if_false]
          rw [e_Re_operand_91]
          simp (disch := first | exact ev_ok_i _ | exact ev_ok_r _ | exact ev_ok_n | omega | assumption | decide) only [ev_rm_n, ev_rm_i, ev_rm_r, ev_rm_l, ev_ok_n, ev_ok_i, ev_ok_r, Option.toList_some, Option.toList_none, List.cons_append, List.nil_append, true_and, and_true, true_or, or_true, reduceIte, Nat.reduceEqDiff, if_true, if_false, cg_Dp_rc, cg_Dp_text, cg_Dp_circuit, cg_Dp_reader, cg_Dp_current, cg_Dp_working, cg_Dp_saturator, cg_Dp_table, cg_Te_rc, cg_Te_bytes, cg_Te_length, cp_Te_length, cg_Ci_rc, cg_Ci_kinds, cg_Ci_firsts, cg_Ci_seconds, cg_Ci_inputVariables, cg_Ci_names, cg_Ci_nameLengths, cg_Ci_size, cp_Ci_size, cg_Ci_inputs, cp_Ci_inputs, cg_Re_rc, cg_Re_text, cg_Re_circuit, cg_Re_token, cp_Re_token, cg_Re_start, cp_Re_start, cg_Re_next, cp_Re_next, cg_Re_open, cp_Re_open, cg_Re_fault, cp_Re_fault, cg_Re_faultPlace, cp_Re_faultPlace, cg_Sa_rc, cg_Sa_circuit, cg_Sa_before, cg_Sa_trueBranches, cg_Sa_falseBranches, cg_Sa_tallies, cg_Sa_mostSteps, cp_Sa_mostSteps, cg_Sa_spent, cp_Sa_spent, cg_Ta_rc, cg_Ta_circuit, cg_Ta_words, cr_kinds, cw_kinds, cr_firsts, cw_firsts, cr_seconds, cw_seconds, cr_inputVariables, cw_inputVariables, cr_nameLengths, cw_nameLengths, cr_tallies, cw_tallies, cr_bytes, cw_bytes, cr_words, cw_words, cl_tallies, cr_names, cr_trueB, cr_falseB, cr_name, cw_name, cq_rc, cq_st, cq_size, cq_classes, cq_contradiction, cqp_size, cqp_classes, cqp_contradiction, cq_rd, cq_wr, cq_copy, cl_s_1, cl_s_2, cl_ar_1, cl_ar_2, cl_w_1, cl_w_2]
          by_cases hz : pF r.2 = 0
          · rw [if_neg (fun z => z hz)] at hQ
            have w2' : pO r.2 = pO s + 1 := (r3 hz).2.1
            refine c_reClose (d := d + 4) hX t1 r1 hz (by omega) (fun a1 τ5 b1 b2 => ?_) (fun a1 a2 τ5 b1 b2 => ?_) (fun a1 a2 τ5 b1 b2 => ?_)
            · rw [if_pos a1] at hQ
              simp (disch := first | exact ev_ok_i _ | exact ev_ok_r _ | exact ev_ok_n | omega | assumption | decide) only [e_Re_operand_94, e_Re_operand_95, ev_rm_n, ev_rm_i, ev_rm_r, ev_rm_l, ev_ok_n, ev_ok_i, ev_ok_r, Option.toList_some, Option.toList_none, List.cons_append, List.nil_append, true_and, and_true, true_or, or_true, reduceIte, Nat.reduceEqDiff, if_true, if_false]
              exact hQ τ5 _ b1 (fun z => absurd z a1) (cl_ke_tr k3 b2)
            · rw [if_neg (fun z => z a1), if_pos a2] at hQ
              simp (disch := first | exact ev_ok_i _ | exact ev_ok_r _ | exact ev_ok_n | omega | assumption | decide) only [e_Re_operand_94, e_Re_operand_95, ev_rm_n, ev_rm_i, ev_rm_r, ev_rm_l, ev_ok_n, ev_ok_i, ev_ok_r, Option.toList_some, Option.toList_none, List.cons_append, List.nil_append, true_and, and_true, true_or, or_true, reduceIte, Nat.reduceEqDiff, if_true, if_false]
              exact hQ τ5 _ b1 (fun _ => t2 hz) (cl_ke_tr k3 b2)
            · rw [if_neg (fun z => z a1), if_neg a2] at hQ
              simp (disch := first | exact ev_ok_i _ | exact ev_ok_r _ | exact ev_ok_n | omega | assumption | decide) only [e_Re_operand_94, e_Re_operand_95, ev_rm_n, ev_rm_i, ev_rm_r, ev_rm_l, ev_ok_n, ev_ok_i, ev_ok_r, Option.toList_some, Option.toList_none, List.cons_append, List.nil_append, true_and, and_true, true_or, or_true, reduceIte, Nat.reduceEqDiff, if_true, if_false]
              exact hQ τ5 _ b1 (fun z => absurd z (sp_fail_f (by decide))) (cl_ke_tr k3 b2)
          · rw [if_pos hz] at hQ
            have x6 := cl_P_f6 t1 hz hrf
            rw [c_reCloseF x6]
            simp (disch := first | exact ev_ok_i _ | exact ev_ok_r _ | exact ev_ok_n | omega | assumption | decide) only [e_Re_operand_94, e_Re_operand_95, ev_rm_n, ev_rm_i, ev_rm_r, ev_rm_l, ev_ok_n, ev_ok_i, ev_ok_r, Option.toList_some, Option.toList_none, List.cons_append, List.nil_append, true_and, and_true, true_or, or_true, reduceIte, Nat.reduceEqDiff, if_true, if_false]
            exact hQ τ4 _ t1 (fun z => absurd z hz) k3
      · rw [if_neg t5] at hQ
        by_cases t2 : tK x s = 257
        · rw [if_pos t2] at hQ
          rw [if_pos t2]
          simp (disch := first | exact ev_ok_i _ | exact ev_ok_r _ | exact ev_ok_n | omega | assumption | decide) only [e_Re_operand_96, e_Re_operand_97, ev_rm_n, ev_rm_i, ev_rm_r, ev_rm_l, ev_ok_n, ev_ok_i, ev_ok_r, Option.toList_some, Option.toList_none, List.cons_append, List.nil_append, true_and, and_true, true_or, or_true, reduceIte, Nat.reduceEqDiff, if_true, if_false, cg_Dp_rc, cg_Dp_text, cg_Dp_circuit, cg_Dp_reader, cg_Dp_current, cg_Dp_working, cg_Dp_saturator, cg_Dp_table, cg_Te_rc, cg_Te_bytes, cg_Te_length, cp_Te_length, cg_Ci_rc, cg_Ci_kinds, cg_Ci_firsts, cg_Ci_seconds, cg_Ci_inputVariables, cg_Ci_names, cg_Ci_nameLengths, cg_Ci_size, cp_Ci_size, cg_Ci_inputs, cp_Ci_inputs, cg_Re_rc, cg_Re_text, cg_Re_circuit, cg_Re_token, cp_Re_token, cg_Re_start, cp_Re_start, cg_Re_next, cp_Re_next, cg_Re_open, cp_Re_open, cg_Re_fault, cp_Re_fault, cg_Re_faultPlace, cp_Re_faultPlace, cg_Sa_rc, cg_Sa_circuit, cg_Sa_before, cg_Sa_trueBranches, cg_Sa_falseBranches, cg_Sa_tallies, cg_Sa_mostSteps, cp_Sa_mostSteps, cg_Sa_spent, cp_Sa_spent, cg_Ta_rc, cg_Ta_circuit, cg_Ta_words, cr_kinds, cw_kinds, cr_firsts, cw_firsts, cr_seconds, cw_seconds, cr_inputVariables, cw_inputVariables, cr_nameLengths, cw_nameLengths, cr_tallies, cw_tallies, cr_bytes, cw_bytes, cr_words, cw_words, cl_tallies, cr_names, cr_trueB, cr_falseB, cr_name, cw_name, cq_rc, cq_st, cq_size, cq_classes, cq_contradiction, cqp_size, cqp_classes, cqp_contradiction, cq_rd, cq_wr, cq_copy, cl_s_1, cl_s_2, cl_ar_1, cl_ar_2, cl_w_1, cl_w_2]
          refine c_reName (d := d + 8) p1 hL hok h0 t2 (fun τ3 u a1 a2 a3 => ?_)
          simp (disch := first | exact ev_ok_i _ | exact ev_ok_r _ | exact ev_ok_n | omega | assumption | decide) only [e_Re_operand_100, ev_rm_n, ev_rm_i, ev_rm_r, ev_rm_l, ev_ok_n, ev_ok_i, ev_ok_r, Option.toList_some, Option.toList_none, List.cons_append, List.nil_append, true_and, and_true, true_or, or_true, reduceIte, Nat.reduceEqDiff, if_true, if_false]
          exact hQ τ3 u a1 a2 (cl_ke_tr k1 a3)
        · rw [if_neg t2] at hQ
          rw [if_neg t2]
          by_cases t3 : tK x s = 258
          · rw [if_pos t3] at hQ
            rw [if_pos t3]
            simp (disch := first | exact ev_ok_i _ | exact ev_ok_r _ | exact ev_ok_n | omega | assumption | decide) only [e_Re_operand_101, e_Re_operand_102, e_Re_operand_105, e_Re_operand_106, e_Re_operand_107, ev_rm_n, ev_rm_i, ev_rm_r, ev_rm_l, ev_ok_n, ev_ok_i, ev_ok_r, Option.toList_some, Option.toList_none, List.cons_append, List.nil_append, true_and, and_true, true_or, or_true, reduceIte, Nat.reduceEqDiff, if_true, if_false, cg_Dp_rc, cg_Dp_text, cg_Dp_circuit, cg_Dp_reader, cg_Dp_current, cg_Dp_working, cg_Dp_saturator, cg_Dp_table, cg_Te_rc, cg_Te_bytes, cg_Te_length, cp_Te_length, cg_Ci_rc, cg_Ci_kinds, cg_Ci_firsts, cg_Ci_seconds, cg_Ci_inputVariables, cg_Ci_names, cg_Ci_nameLengths, cg_Ci_size, cp_Ci_size, cg_Ci_inputs, cp_Ci_inputs, cg_Re_rc, cg_Re_text, cg_Re_circuit, cg_Re_token, cp_Re_token, cg_Re_start, cp_Re_start, cg_Re_next, cp_Re_next, cg_Re_open, cp_Re_open, cg_Re_fault, cp_Re_fault, cg_Re_faultPlace, cp_Re_faultPlace, cg_Sa_rc, cg_Sa_circuit, cg_Sa_before, cg_Sa_trueBranches, cg_Sa_falseBranches, cg_Sa_tallies, cg_Sa_mostSteps, cp_Sa_mostSteps, cg_Sa_spent, cp_Sa_spent, cg_Ta_rc, cg_Ta_circuit, cg_Ta_words, cr_kinds, cw_kinds, cr_firsts, cw_firsts, cr_seconds, cw_seconds, cr_inputVariables, cw_inputVariables, cr_nameLengths, cw_nameLengths, cr_tallies, cw_tallies, cr_bytes, cw_bytes, cr_words, cw_words, cl_tallies, cr_names, cr_trueB, cr_falseB, cr_name, cw_name, cq_rc, cq_st, cq_size, cq_classes, cq_contradiction, cqp_size, cqp_classes, cqp_contradiction, cq_rd, cq_wr, cq_copy, cl_s_1, cl_s_2, cl_ar_1, cl_ar_2, cl_w_1, cl_w_2, c_take2]
            exact hQ _ _ hT (fun _ => rfl) (cl_ke_tr k1 kT)
          · rw [if_neg t3] at hQ
            rw [if_neg t3]
            by_cases t4 : tK x s = 259
            · rw [if_pos t4] at hQ
              rw [if_pos t4]
              simp (disch := first | exact ev_ok_i _ | exact ev_ok_r _ | exact ev_ok_n | omega | assumption | decide) only [e_Re_operand_108, e_Re_operand_109, e_Re_operand_112, e_Re_operand_113, e_Re_operand_114, ev_rm_n, ev_rm_i, ev_rm_r, ev_rm_l, ev_ok_n, ev_ok_i, ev_ok_r, Option.toList_some, Option.toList_none, List.cons_append, List.nil_append, true_and, and_true, true_or, or_true, reduceIte, Nat.reduceEqDiff, if_true, if_false, cg_Dp_rc, cg_Dp_text, cg_Dp_circuit, cg_Dp_reader, cg_Dp_current, cg_Dp_working, cg_Dp_saturator, cg_Dp_table, cg_Te_rc, cg_Te_bytes, cg_Te_length, cp_Te_length, cg_Ci_rc, cg_Ci_kinds, cg_Ci_firsts, cg_Ci_seconds, cg_Ci_inputVariables, cg_Ci_names, cg_Ci_nameLengths, cg_Ci_size, cp_Ci_size, cg_Ci_inputs, cp_Ci_inputs, cg_Re_rc, cg_Re_text, cg_Re_circuit, cg_Re_token, cp_Re_token, cg_Re_start, cp_Re_start, cg_Re_next, cp_Re_next, cg_Re_open, cp_Re_open, cg_Re_fault, cp_Re_fault, cg_Re_faultPlace, cp_Re_faultPlace, cg_Sa_rc, cg_Sa_circuit, cg_Sa_before, cg_Sa_trueBranches, cg_Sa_falseBranches, cg_Sa_tallies, cg_Sa_mostSteps, cp_Sa_mostSteps, cg_Sa_spent, cp_Sa_spent, cg_Ta_rc, cg_Ta_circuit, cg_Ta_words, cr_kinds, cw_kinds, cr_firsts, cw_firsts, cr_seconds, cw_seconds, cr_inputVariables, cw_inputVariables, cr_nameLengths, cw_nameLengths, cr_tallies, cw_tallies, cr_bytes, cw_bytes, cr_words, cw_words, cl_tallies, cr_names, cr_trueB, cr_falseB, cr_name, cw_name, cq_rc, cq_st, cq_size, cq_classes, cq_contradiction, cqp_size, cqp_classes, cqp_contradiction, cq_rd, cq_wr, cq_copy, cl_s_1, cl_s_2, cl_ar_1, cl_ar_2, cl_w_1, cl_w_2, c_take2]
              exact hQ _ _ hT (fun _ => rfl) (cl_ke_tr k1 kT)
            · rw [if_neg t4] at hQ
              rw [if_neg t4, if_neg t5, if_neg t7, ite_self]
              simp (disch := first | exact ev_ok_i _ | exact ev_ok_r _ | exact ev_ok_n | omega | assumption | decide) only [e_Re_operand_115, e_Re_operand_116, e_Re_operand_117, e_Re_operand_118, e_Re_operand_121, e_Re_operand_124, ev_rm_n, ev_rm_i, ev_rm_r, ev_rm_l, ev_ok_n, ev_ok_i, ev_ok_r, Option.toList_some, Option.toList_none, List.cons_append, List.nil_append, true_and, and_true, true_or, or_true, reduceIte, Nat.reduceEqDiff, if_true, if_false, cg_Dp_rc, cg_Dp_text, cg_Dp_circuit, cg_Dp_reader, cg_Dp_current, cg_Dp_working, cg_Dp_saturator, cg_Dp_table, cg_Te_rc, cg_Te_bytes, cg_Te_length, cp_Te_length, cg_Ci_rc, cg_Ci_kinds, cg_Ci_firsts, cg_Ci_seconds, cg_Ci_inputVariables, cg_Ci_names, cg_Ci_nameLengths, cg_Ci_size, cp_Ci_size, cg_Ci_inputs, cp_Ci_inputs, cg_Re_rc, cg_Re_text, cg_Re_circuit, cg_Re_token, cp_Re_token, cg_Re_start, cp_Re_start, cg_Re_next, cp_Re_next, cg_Re_open, cp_Re_open, cg_Re_fault, cp_Re_fault, cg_Re_faultPlace, cp_Re_faultPlace, cg_Sa_rc, cg_Sa_circuit, cg_Sa_before, cg_Sa_trueBranches, cg_Sa_falseBranches, cg_Sa_tallies, cg_Sa_mostSteps, cp_Sa_mostSteps, cg_Sa_spent, cp_Sa_spent, cg_Ta_rc, cg_Ta_circuit, cg_Ta_words, cr_kinds, cw_kinds, cr_firsts, cw_firsts, cr_seconds, cw_seconds, cr_inputVariables, cw_inputVariables, cr_nameLengths, cw_nameLengths, cr_tallies, cw_tallies, cr_bytes, cw_bytes, cr_words, cw_words, cl_tallies, cr_names, cr_trueB, cr_falseB, cr_name, cw_name, cq_rc, cq_st, cq_size, cq_classes, cq_contradiction, cqp_size, cqp_classes, cqp_contradiction, cq_rd, cq_wr, cq_copy, cl_s_1, cl_s_2, cl_ar_1, cl_ar_2, cl_w_1, cl_w_2, c_refuse, p2, h6', if_true]
              have kk : cl_ke cl_J4 τ2 (cl_s (cl_s τ2 34 6 2) 34 7 (nI (tS x s))) := cl_ke_tr (cl_ke_s τ2 6 _ rfl) (cl_ke_s _ 7 _ rfl)
              refine hQ _ _ (cl_P_fail hi24 p1.1 h0 (by decide) kk ?_ ?_) (fun z => absurd z (sp_fail_f (by decide))) (cl_ke_tr k1 (cl_ke_mo kk (fun i z => cl_J4_R z)))
              · simp only [cl_s_1, if_true, upd_a, Nat.reduceEqDiff, if_false]; rfl
              · simp only [cl_s_1, if_true, upd_a]
  · rw [if_pos hl] at hQ
    rw [if_neg hl]
    simp (disch := first | exact ev_ok_i _ | exact ev_ok_r _ | exact ev_ok_n | omega | assumption | decide) only [ev_rm_n, ev_rm_i, ev_rm_r, ev_rm_l, ev_ok_n, ev_ok_i, ev_ok_r, Option.toList_some, Option.toList_none, List.cons_append, List.nil_append, true_and, and_true, true_or, or_true, reduceIte, Nat.reduceEqDiff, if_true, if_false]
    rw [e_Re_operand_6]
    have x6 := cl_P_f6 p1 hl (sp_look_fl hfl)
    simp only [if_neg (show ¬ (0 : Int32) = 2 by decide), if_neg (show ¬ (0 : Int32) = 3 by decide), if_neg (show ¬ (0 : Int32) = 4 by decide), if_neg (show ¬ (0 : Int32) = 5 by decide), if_neg (show ¬ (0 : Int32) = 6 by decide), if_neg (show ¬ (0 : Int32) = 7 by decide)]
    simp (disch := first | exact ev_ok_i _ | exact ev_ok_r _ | exact ev_ok_n | omega | assumption | decide) only [e_Re_operand_115, e_Re_operand_116, e_Re_operand_117, e_Re_operand_118, e_Re_operand_121, e_Re_operand_124, ev_rm_n, ev_rm_i, ev_rm_r, ev_rm_l, ev_ok_n, ev_ok_i, ev_ok_r, Option.toList_some, Option.toList_none, List.cons_append, List.nil_append, true_and, and_true, true_or, or_true, reduceIte, Nat.reduceEqDiff, if_true, if_false, cg_Dp_rc, cg_Dp_text, cg_Dp_circuit, cg_Dp_reader, cg_Dp_current, cg_Dp_working, cg_Dp_saturator, cg_Dp_table, cg_Te_rc, cg_Te_bytes, cg_Te_length, cp_Te_length, cg_Ci_rc, cg_Ci_kinds, cg_Ci_firsts, cg_Ci_seconds, cg_Ci_inputVariables, cg_Ci_names, cg_Ci_nameLengths, cg_Ci_size, cp_Ci_size, cg_Ci_inputs, cp_Ci_inputs, cg_Re_rc, cg_Re_text, cg_Re_circuit, cg_Re_token, cp_Re_token, cg_Re_start, cp_Re_start, cg_Re_next, cp_Re_next, cg_Re_open, cp_Re_open, cg_Re_fault, cp_Re_fault, cg_Re_faultPlace, cp_Re_faultPlace, cg_Sa_rc, cg_Sa_circuit, cg_Sa_before, cg_Sa_trueBranches, cg_Sa_falseBranches, cg_Sa_tallies, cg_Sa_mostSteps, cp_Sa_mostSteps, cg_Sa_spent, cp_Sa_spent, cg_Ta_rc, cg_Ta_circuit, cg_Ta_words, cr_kinds, cw_kinds, cr_firsts, cw_firsts, cr_seconds, cw_seconds, cr_inputVariables, cw_inputVariables, cr_nameLengths, cw_nameLengths, cr_tallies, cw_tallies, cr_bytes, cw_bytes, cr_words, cw_words, cl_tallies, cr_names, cr_trueB, cr_falseB, cr_name, cw_name, cq_rc, cq_st, cq_size, cq_classes, cq_contradiction, cqp_size, cqp_classes, cqp_contradiction, cq_rd, cq_wr, cq_copy, cl_s_1, cl_s_2, cl_ar_1, cl_ar_2, cl_w_1, cl_w_2, c_refuse, x6, if_false]
    exact hQ τ2 _ p1 (fun z => absurd z hl) k1
theorem cl_PR (hX : cl_TX X B g) : ∀ f, cl_PA X B g x n0 f ∧ cl_PB X B g x n0 f ∧ cl_PC X B g x n0 f := by
  intro f
  induction f with
  | zero =>
    refine ⟨?_, ?_, ?_⟩
    · intro lv s τ e Q hok h0 hlv hf; omega
    · intro lv s v i τ e l3 Q hok h0 hlv h1 hv hf; omega
    · intro s v τ e Q hok h0 hv hf; omega
  | succ f ih =>
    obtain ⟨ihA, ihB, ihC⟩ := ih
    refine ⟨?_, ?_, c_PC ihA hX⟩
    · intro lv s τ e Q hok h0 hlv hf he hP hQ
      have h6 : lv = 0 ∨ lv = 1 ∨ lv = 2 ∨ lv = 3 ∨ lv = 4 ∨ lv = 5 := by omega
      rcases h6 with z | z | z | z | z | z <;> subst z
      · exact c_PA0 ihA ihB hok h0 hf he hP hQ
      · exact c_PA1 ihA ihC hok h0 hf he hP hQ
      · exact c_PA2 ihA ihB hok h0 hf he hP hQ
      · exact c_PA3 ihA ihB hok h0 hf he hP hQ
      · exact c_PA4 ihA ihB hok h0 hf he hP hQ
      · exact c_PA5 ihA hX hok h0 hf he hP hQ
    · intro lv s v i τ e l3 Q hok h0 hlv h1 hv hf he hi hP hQ
      have h6 : lv = 0 ∨ lv = 2 ∨ lv = 3 ∨ lv = 4 := by omega
      rcases h6 with z | z | z | z <;> subst z
      · exact c_PB0 ihA ihB hX hok h0 hv hf he hi hP hQ
      · exact c_PB2 ihA ihB hX hok h0 hv hf he hi hP hQ
      · exact c_PB3 ihA ihB hX hok h0 hv hf he hi hP hQ
      · exact c_PB4 ihA ihB hX hok h0 hv hf he hi hP hQ
end CR6
