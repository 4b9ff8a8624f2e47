/-! THE CLASS's equivalences: what each method does to the state, in the specification's words -/
theorem nL_s1 {a : Nat} (h : a < 2 ^ 31) : nI a >>> ((1 : Int32) &&& 31) = nI (a / 2) := pk_shrN h _ 1 (by decide)
theorem nL_a1 {a : Nat} (h : a < 2 ^ 31) : nI a &&& 1 = nI (a % 2) := pk_andN (by omega) 1 (by decide)
theorem nL_m2 (c : Nat) : nI (c + 2) - 2 = nI c := by
  rw [← nI_add c 2]
  exact Int32.add_sub_cancel _ _
theorem nL_p2 (c : Nat) : nI c + 2 = nI (c + 2) := nI_add c 2
theorem nC_1 {a : Nat} (h : a < 2 ^ 31) : (1 : Int32) < nI a ↔ 1 < a := nI_ltI (a := 1) (by decide) h
/-- what may change: the cells that S names -/
def cl_ke (S : Nat → Prop) (τ τ2 : cl_S) : Prop := (∀ i, ¬ S i → τ2.1 i = τ.1 i) ∧ τ2.2 = τ.2
theorem cl_ke_rf (S : Nat → Prop) (τ : cl_S) : cl_ke S τ τ := ⟨fun _ _ => rfl, rfl⟩
theorem cl_ke_tr {S : Nat → Prop} {τ τ2 τ3 : cl_S} (h : cl_ke S τ τ2) (h2 : cl_ke S τ2 τ3) : cl_ke S τ τ3 := ⟨fun i hi => (h2.1 i hi).trans (h.1 i hi), h2.2.trans h.2⟩
theorem cl_ke_mo {S T : Nat → Prop} {τ τ2 : cl_S} (h : cl_ke S τ τ2) (hm : ∀ i, S i → T i) : cl_ke T τ τ2 := ⟨fun i hi => h.1 i (fun z => hi (hm i z)), h.2⟩
theorem cl_ke_s {S : Nat → Prop} (τ : cl_S) {j : Nat} (k : Nat) (v : Int32) (h : S j) : cl_ke S τ (cl_s τ j k v) := ⟨fun i hi => by rw [cl_s_1, if_neg (fun z => hi (by rw [z]; exact h))], rfl⟩
theorem cl_ke_ar {S : Nat → Prop} (τ : cl_S) {j : Nat} (f : Nat → Int32) (h : S j) : cl_ke S τ (cl_ar τ j f) := ⟨fun i hi => by rw [cl_ar_1, if_neg (fun z => hi (by rw [z]; exact h))], rfl⟩
/-- the equivalence j and its row -/
abbrev cl_J (j : Nat) : Nat → Prop := fun i => i = j ∨ i = j + 1
theorem cl_s_ar (τ : cl_S) (j k : Nat) (f : Nat → Int32) (v : Int32) : cl_s (cl_ar τ j f) j k v = cl_ar τ j (upd f k v) := by
  unfold cl_s cl_ar
  refine Prod.ext (funext fun i => ?_) rfl
  dsimp only
  unfold va_up
  by_cases e : i = j
  · rw [if_pos e, if_pos e, if_pos rfl]
  · rw [if_neg e, if_neg e, if_neg e]
theorem cl_ar_eq (τ : cl_S) (j : Nat) : cl_ar τ j (τ.1 j) = τ := by
  unfold cl_ar
  refine Prod.ext (funext fun i => ?_) rfl
  dsimp only
  unfold va_up
  by_cases e : i = j
  · rw [if_pos e, e]
  · rw [if_neg e]
/-- the equivalence at j is E -/
def cl_E (τ : cl_S) (j n : Nat) (E : sp_E) : Prop := τ.1 j 1 = nI n ∧ τ.1 j 3 = sp_zb E.2 ∧ (E.2 = false → τ.1 j 2 = nI (sp_cn n E) ∧ ∀ v, v < n → τ.1 (j + 1) v = nI (E.1 (2 * v)))
theorem cl_E_eq {τ : cl_S} {j n : Nat} {E F : sp_E} (h : cl_E τ j n E) (he : sp_eq n E F) : cl_E τ j n F := by
  refine ⟨h.1, he.1 ▸ h.2.1, fun h0 => ?_⟩
  have h1 : E.2 = false := he.1.trans h0
  obtain ⟨a, b⟩ := h.2.2 h1
  refine ⟨by rw [a, sp_eq_cn he h1], fun v hv => by rw [b v hv, he.2 h1 _ (by omega)]⟩
theorem cl_E_ke {S : Nat → Prop} {τ τ2 : cl_S} {j n : Nat} {E : sp_E} (hk : cl_ke S τ τ2) (h1 : ¬ S j) (h2 : ¬ S (j + 1)) (h : cl_E τ j n E) : cl_E τ2 j n E := by
  unfold cl_E
  rw [hk.1 j h1, hk.1 (j + 1) h2]
  exact h
theorem cs_lt8 {x y : Nat} (hx : x < 240) (hy : y < 240) : x ^^^ y < 256 := Nat.xor_lt_two_pow (n := 8) (by omega) (by omega)
/-- a label that the class's join makes -/
def cs_nw (hi lo x : Nat) : Nat := if x ^^^ hi ≤ 1 then x ^^^ (hi ^^^ lo) else x
theorem cs_xle {x y : Nat} : x ^^^ y ≤ 1 ↔ x = y ∨ x = y ^^^ 1 := by
  constructor
  · intro h
    have h1 : x ^^^ y = 0 ∨ x ^^^ y = 1 := by omega
    rcases h1 with e | e
    · left
      have := cs_xt.mp e
      rwa [Nat.xor_zero] at this
    · right
      exact cs_xt.mp e
  · rintro (e | e)
    · rw [e, Nat.xor_self]; omega
    · have : x ^^^ y = 1 := cs_xt.mpr e
      omega
theorem cs_nw_jl {p q lo hi : Nat} (hlt : lo / 2 < hi / 2) (hf : ∀ x, md_jl p q (p ^^^ 1) (q ^^^ 1) x = if x = lo ∨ x = hi then lo else if x = lo ^^^ 1 ∨ x = hi ^^^ 1 then lo ^^^ 1 else x) (x : Nat) : cs_nw hi lo x = md_jl p q (p ^^^ 1) (q ^^^ 1) x := by
  have hx := x1_lt hlt
  rw [hf]
  unfold cs_nw
  by_cases c : x ^^^ hi ≤ 1
  · rw [if_pos c]
    rcases cs_xle.mp c with e | e
    · rw [if_pos (Or.inr e), e, ← Nat.xor_assoc, Nat.xor_self, Nat.zero_xor]
    · rw [if_neg (by have := x1_ne hi; omega), if_pos (Or.inr e), e, Nat.xor_comm hi 1, Nat.xor_assoc, ← Nat.xor_assoc hi hi lo, Nat.xor_self, Nat.zero_xor, Nat.xor_comm]
  · rw [if_neg c]
    have c2 : ¬ x = hi := fun z => c (cs_xle.mpr (Or.inl z))
    have c3 : ¬ x = hi ^^^ 1 := fun z => c (cs_xle.mpr (Or.inr z))
    by_cases d : x = lo
    · rw [if_pos (Or.inl d)]; exact d
    · rw [if_neg (by omega)]
      by_cases d2 : x = lo ^^^ 1
      · rw [if_pos (Or.inl d2)]; exact d2
      · rw [if_neg (by omega)]
theorem cs_z01 (b : Bool) : (sp_zb b = 0 ∨ sp_zb b = 1) = True := eq_true (sp_zb_01 b)
theorem cs_z02 (b : Bool) : (b = false ∨ sp_zb b = 1) = True := eq_true (by cases b <;> simp [sp_zb])
theorem cl_E_z {τ : cl_S} {j n : Nat} {E : sp_E} (h : cl_E τ j n E) : τ.1 j 3 = 0 ∨ τ.1 j 3 = 1 := by rw [h.2.1]; exact sp_zb_01 _
section CQ
variable {X : xo_X} {d B : Nat} {τ : cl_S} {g : xo_G} {Q : Option Value → xo_G → Prop} {j n : Nat}
theorem c_eqSize (hj : j ∈ cl_eo) : ev_C X d m_Eq_size [.ref (B + j)] (cl_put B τ g) Q ↔ Q (some (.int (τ.1 j 1))) (cl_put B τ g) := by
  show ev_R X d m_Eq_size 0 [some (.ref (B + j))] [] (cl_put B τ g) Q ↔ _
  simp (disch := first | exact ev_ok_i _ | exact ev_ok_r _ | exact ev_ok_n | omega | assumption) only [e_Eq_size_0, e_Eq_size_1, e_Eq_size_4, ev_rm_n, ev_rm_i, ev_rm_r, ev_rm_l, ev_ok_n, ev_ok_i, ev_ok_r, Option.toList_some, Option.toList_none, List.cons_append, List.nil_append, true_and, and_true, true_or, or_true, reduceIte, Nat.reduceEqDiff, if_true, if_false, cg_Dp_rc, cg_Dp_text, cg_Dp_circuit, cg_Dp_reader, cg_Dp_current, cg_Dp_working, cg_Dp_saturator, cg_Dp_table, cg_Te_rc, cg_Te_bytes, cg_Te_length, cp_Te_length, cg_Ci_rc, cg_Ci_kinds, cg_Ci_firsts, cg_Ci_seconds, cg_Ci_inputVariables, cg_Ci_names, cg_Ci_nameLengths, cg_Ci_size, cp_Ci_size, cg_Ci_inputs, cp_Ci_inputs, cg_Re_rc, cg_Re_text, cg_Re_circuit, cg_Re_token, cp_Re_token, cg_Re_start, cp_Re_start, cg_Re_next, cp_Re_next, cg_Re_open, cp_Re_open, cg_Re_fault, cp_Re_fault, cg_Re_faultPlace, cp_Re_faultPlace, cg_Sa_rc, cg_Sa_circuit, cg_Sa_before, cg_Sa_trueBranches, cg_Sa_falseBranches, cg_Sa_tallies, cg_Sa_mostSteps, cp_Sa_mostSteps, cg_Sa_spent, cp_Sa_spent, cg_Ta_rc, cg_Ta_circuit, cg_Ta_words, cr_kinds, cw_kinds, cr_firsts, cw_firsts, cr_seconds, cw_seconds, cr_inputVariables, cw_inputVariables, cr_nameLengths, cw_nameLengths, cr_tallies, cw_tallies, cr_bytes, cw_bytes, cr_words, cw_words, cl_tallies, cr_names, cr_trueB, cr_falseB, cr_name, cw_name, cq_rc, cq_st, cq_size, cq_classes, cq_contradiction, cqp_size, cqp_classes, cqp_contradiction, cq_rd, cq_wr, cq_copy, cl_s_1, cl_s_2, cl_ar_1, cl_ar_2, cl_w_1, cl_w_2]
theorem c_eqClasses (hj : j ∈ cl_eo) : ev_C X d m_Eq_classes [.ref (B + j)] (cl_put B τ g) Q ↔ Q (some (.int (τ.1 j 2))) (cl_put B τ g) := by
  show ev_R X d m_Eq_classes 0 [some (.ref (B + j))] [] (cl_put B τ g) Q ↔ _
  simp (disch := first | exact ev_ok_i _ | exact ev_ok_r _ | exact ev_ok_n | omega | assumption) only [e_Eq_classes_0, e_Eq_classes_1, e_Eq_classes_4, ev_rm_n, ev_rm_i, ev_rm_r, ev_rm_l, ev_ok_n, ev_ok_i, ev_ok_r, Option.toList_some, Option.toList_none, List.cons_append, List.nil_append, true_and, and_true, true_or, or_true, reduceIte, Nat.reduceEqDiff, if_true, if_false, cg_Dp_rc, cg_Dp_text, cg_Dp_circuit, cg_Dp_reader, cg_Dp_current, cg_Dp_working, cg_Dp_saturator, cg_Dp_table, cg_Te_rc, cg_Te_bytes, cg_Te_length, cp_Te_length, cg_Ci_rc, cg_Ci_kinds, cg_Ci_firsts, cg_Ci_seconds, cg_Ci_inputVariables, cg_Ci_names, cg_Ci_nameLengths, cg_Ci_size, cp_Ci_size, cg_Ci_inputs, cp_Ci_inputs, cg_Re_rc, cg_Re_text, cg_Re_circuit, cg_Re_token, cp_Re_token, cg_Re_start, cp_Re_start, cg_Re_next, cp_Re_next, cg_Re_open, cp_Re_open, cg_Re_fault, cp_Re_fault, cg_Re_faultPlace, cp_Re_faultPlace, cg_Sa_rc, cg_Sa_circuit, cg_Sa_before, cg_Sa_trueBranches, cg_Sa_falseBranches, cg_Sa_tallies, cg_Sa_mostSteps, cp_Sa_mostSteps, cg_Sa_spent, cp_Sa_spent, cg_Ta_rc, cg_Ta_circuit, cg_Ta_words, cr_kinds, cw_kinds, cr_firsts, cw_firsts, cr_seconds, cw_seconds, cr_inputVariables, cw_inputVariables, cr_nameLengths, cw_nameLengths, cr_tallies, cw_tallies, cr_bytes, cw_bytes, cr_words, cw_words, cl_tallies, cr_names, cr_trueB, cr_falseB, cr_name, cw_name, cq_rc, cq_st, cq_size, cq_classes, cq_contradiction, cqp_size, cqp_classes, cqp_contradiction, cq_rd, cq_wr, cq_copy, cl_s_1, cl_s_2, cl_ar_1, cl_ar_2, cl_w_1, cl_w_2]
theorem c_eqContra (hj : j ∈ cl_eo) : ev_C X d m_Eq_isContradiction [.ref (B + j)] (cl_put B τ g) Q ↔ (τ.1 j 3 = 0 ∨ τ.1 j 3 = 1) ∧ Q (some (.int (τ.1 j 3))) (cl_put B τ g) := by
  show ev_R X d m_Eq_isContradiction 0 [some (.ref (B + j))] [] (cl_put B τ g) Q ↔ _
  simp (disch := first | exact ev_ok_i _ | exact ev_ok_r _ | exact ev_ok_n | omega | assumption) only [e_Eq_isContradiction_0, e_Eq_isContradiction_1, e_Eq_isContradiction_4, ev_rm_n, ev_rm_i, ev_rm_r, ev_rm_l, ev_ok_n, ev_ok_i, ev_ok_r, Option.toList_some, Option.toList_none, List.cons_append, List.nil_append, true_and, and_true, true_or, or_true, reduceIte, Nat.reduceEqDiff, if_true, if_false, cg_Dp_rc, cg_Dp_text, cg_Dp_circuit, cg_Dp_reader, cg_Dp_current, cg_Dp_working, cg_Dp_saturator, cg_Dp_table, cg_Te_rc, cg_Te_bytes, cg_Te_length, cp_Te_length, cg_Ci_rc, cg_Ci_kinds, cg_Ci_firsts, cg_Ci_seconds, cg_Ci_inputVariables, cg_Ci_names, cg_Ci_nameLengths, cg_Ci_size, cp_Ci_size, cg_Ci_inputs, cp_Ci_inputs, cg_Re_rc, cg_Re_text, cg_Re_circuit, cg_Re_token, cp_Re_token, cg_Re_start, cp_Re_start, cg_Re_next, cp_Re_next, cg_Re_open, cp_Re_open, cg_Re_fault, cp_Re_fault, cg_Re_faultPlace, cp_Re_faultPlace, cg_Sa_rc, cg_Sa_circuit, cg_Sa_before, cg_Sa_trueBranches, cg_Sa_falseBranches, cg_Sa_tallies, cg_Sa_mostSteps, cp_Sa_mostSteps, cg_Sa_spent, cp_Sa_spent, cg_Ta_rc, cg_Ta_circuit, cg_Ta_words, cr_kinds, cw_kinds, cr_firsts, cw_firsts, cr_seconds, cw_seconds, cr_inputVariables, cw_inputVariables, cr_nameLengths, cw_nameLengths, cr_tallies, cw_tallies, cr_bytes, cw_bytes, cr_words, cw_words, cl_tallies, cr_names, cr_trueB, cr_falseB, cr_name, cw_name, cq_rc, cq_st, cq_size, cq_classes, cq_contradiction, cqp_size, cqp_classes, cqp_contradiction, cq_rd, cq_wr, cq_copy, cl_s_1, cl_s_2, cl_ar_1, cl_ar_2, cl_w_1, cl_w_2]
theorem c_contradict (hj : j ∈ cl_eo) : ev_C X d m_Eq_contradict [.ref (B + j)] (cl_put B τ g) Q ↔ Q none (cl_put B (cl_s τ j 3 1) g) := by
  show ev_R X d m_Eq_contradict 0 [some (.ref (B + j))] [] (cl_put B τ g) Q ↔ _
  simp (disch := first | exact ev_ok_i _ | exact ev_ok_r _ | exact ev_ok_n | omega | assumption) only [e_Eq_contradict_0, e_Eq_contradict_1, e_Eq_contradict_2, e_Eq_contradict_5, ev_rm_n, ev_rm_i, ev_rm_r, ev_rm_l, ev_ok_n, ev_ok_i, ev_ok_r, Option.toList_some, Option.toList_none, List.cons_append, List.nil_append, true_and, and_true, true_or, or_true, reduceIte, Nat.reduceEqDiff, if_true, if_false, cg_Dp_rc, cg_Dp_text, cg_Dp_circuit, cg_Dp_reader, cg_Dp_current, cg_Dp_working, cg_Dp_saturator, cg_Dp_table, cg_Te_rc, cg_Te_bytes, cg_Te_length, cp_Te_length, cg_Ci_rc, cg_Ci_kinds, cg_Ci_firsts, cg_Ci_seconds, cg_Ci_inputVariables, cg_Ci_names, cg_Ci_nameLengths, cg_Ci_size, cp_Ci_size, cg_Ci_inputs, cp_Ci_inputs, cg_Re_rc, cg_Re_text, cg_Re_circuit, cg_Re_token, cp_Re_token, cg_Re_start, cp_Re_start, cg_Re_next, cp_Re_next, cg_Re_open, cp_Re_open, cg_Re_fault, cp_Re_fault, cg_Re_faultPlace, cp_Re_faultPlace, cg_Sa_rc, cg_Sa_circuit, cg_Sa_before, cg_Sa_trueBranches, cg_Sa_falseBranches, cg_Sa_tallies, cg_Sa_mostSteps, cp_Sa_mostSteps, cg_Sa_spent, cp_Sa_spent, cg_Ta_rc, cg_Ta_circuit, cg_Ta_words, cr_kinds, cw_kinds, cr_firsts, cw_firsts, cr_seconds, cw_seconds, cr_inputVariables, cw_inputVariables, cr_nameLengths, cw_nameLengths, cr_tallies, cw_tallies, cr_bytes, cw_bytes, cr_words, cw_words, cl_tallies, cr_names, cr_trueB, cr_falseB, cr_name, cw_name, cq_rc, cq_st, cq_size, cq_classes, cq_contradiction, cqp_size, cqp_classes, cqp_contradiction, cq_rd, cq_wr, cq_copy, cl_s_1, cl_s_2, cl_ar_1, cl_ar_2, cl_w_1, cl_w_2]
theorem c_standing {a : Nat} (hj : j ∈ cl_eo) (ha : a < 240) : ev_C X d m_Eq_standing [.ref (B + j), .int (nI a)] (cl_put B τ g) Q ↔ Q (some (.int (τ.1 (j + 1) (a / 2) ^^^ nI (a % 2)))) (cl_put B τ g) := by
  show ev_R X d m_Eq_standing 0 [some (.ref (B + j)), some (.int (nI a))] [] (cl_put B τ g) Q ↔ _
  simp (disch := first | exact ev_ok_i _ | exact ev_ok_r _ | exact ev_ok_n | omega | assumption) only [e_Eq_standing_0, e_Eq_standing_1, e_Eq_standing_4, e_Eq_standing_5, e_Eq_standing_6, e_Eq_standing_7, e_Eq_standing_8, e_Eq_standing_9, e_Eq_standing_10, e_Eq_standing_11, e_Eq_standing_12, ev_rm_n, ev_rm_i, ev_rm_r, ev_rm_l, ev_ok_n, ev_ok_i, ev_ok_r, Option.toList_some, Option.toList_none, List.cons_append, List.nil_append, true_and, and_true, true_or, or_true, reduceIte, Nat.reduceEqDiff, if_true, if_false, cg_Dp_rc, cg_Dp_text, cg_Dp_circuit, cg_Dp_reader, cg_Dp_current, cg_Dp_working, cg_Dp_saturator, cg_Dp_table, cg_Te_rc, cg_Te_bytes, cg_Te_length, cp_Te_length, cg_Ci_rc, cg_Ci_kinds, cg_Ci_firsts, cg_Ci_seconds, cg_Ci_inputVariables, cg_Ci_names, cg_Ci_nameLengths, cg_Ci_size, cp_Ci_size, cg_Ci_inputs, cp_Ci_inputs, cg_Re_rc, cg_Re_text, cg_Re_circuit, cg_Re_token, cp_Re_token, cg_Re_start, cp_Re_start, cg_Re_next, cp_Re_next, cg_Re_open, cp_Re_open, cg_Re_fault, cp_Re_fault, cg_Re_faultPlace, cp_Re_faultPlace, cg_Sa_rc, cg_Sa_circuit, cg_Sa_before, cg_Sa_trueBranches, cg_Sa_falseBranches, cg_Sa_tallies, cg_Sa_mostSteps, cp_Sa_mostSteps, cg_Sa_spent, cp_Sa_spent, cg_Ta_rc, cg_Ta_circuit, cg_Ta_words, cr_kinds, cw_kinds, cr_firsts, cw_firsts, cr_seconds, cw_seconds, cr_inputVariables, cw_inputVariables, cr_nameLengths, cw_nameLengths, cr_tallies, cw_tallies, cr_bytes, cw_bytes, cr_words, cw_words, cl_tallies, cr_names, cr_trueB, cr_falseB, cr_name, cw_name, cq_rc, cq_st, cq_size, cq_classes, cq_contradiction, cqp_size, cqp_classes, cqp_contradiction, cq_rd, cq_wr, cq_copy, cl_s_1, cl_s_2, cl_ar_1, cl_ar_2, cl_w_1, cl_w_2, nL_s1, nL_a1, xo_in, nI_clamp]
theorem cl_E_st {E : sp_E} {a : Nat} (hE : cl_E τ j n E) (hv : sp_va n E) (h0 : E.2 = false) (ha : a < 2 * n) : τ.1 (j + 1) (a / 2) ^^^ nI (a % 2) = nI (E.1 a) := by
  rw [(hE.2.2 h0).2 _ (by omega), nL_x, ← sp_va_t hv (by omega) (by omega), ← cs_2t (by omega)]
  rw [Nat.div_add_mod]
theorem c_standingE {E : sp_E} {a : Nat} (hj : j ∈ cl_eo) (hn : n ≤ 120) (hE : cl_E τ j n E) (hv : sp_va n E) (h0 : E.2 = false) (ha : a < 2 * n) : ev_C X d m_Eq_standing [.ref (B + j), .int (nI a)] (cl_put B τ g) Q ↔ Q (some (.int (nI (E.1 a)))) (cl_put B τ g) := by
  rw [c_standing hj (by omega), cl_E_st hE hv h0 ha]
theorem c_isLeast {v : Nat} (hj : j ∈ cl_eo) (hv : v < 120) : ev_C X d m_Eq_isLeast [.ref (B + j), .int (nI v)] (cl_put B τ g) Q ↔ Q (some (.int (if τ.1 (j + 1) v = nI (2 * v) then 1 else 0))) (cl_put B τ g) := by
  show ev_R X d m_Eq_isLeast 0 [some (.ref (B + j)), some (.int (nI v))] [] (cl_put B τ g) Q ↔ _
  simp (disch := first | exact ev_ok_i _ | exact ev_ok_r _ | exact ev_ok_n | omega | assumption) only [e_Eq_isLeast_0, e_Eq_isLeast_1, e_Eq_isLeast_4, e_Eq_isLeast_5, e_Eq_isLeast_6, e_Eq_isLeast_7, e_Eq_isLeast_8, e_Eq_isLeast_9, e_Eq_isLeast_12, e_Eq_isLeast_13, e_Eq_isLeast_16, e_Eq_isLeast_17, ev_rm_n, ev_rm_i, ev_rm_r, ev_rm_l, ev_ok_n, ev_ok_i, ev_ok_r, Option.toList_some, Option.toList_none, List.cons_append, List.nil_append, true_and, and_true, true_or, or_true, reduceIte, Nat.reduceEqDiff, if_true, if_false, cg_Dp_rc, cg_Dp_text, cg_Dp_circuit, cg_Dp_reader, cg_Dp_current, cg_Dp_working, cg_Dp_saturator, cg_Dp_table, cg_Te_rc, cg_Te_bytes, cg_Te_length, cp_Te_length, cg_Ci_rc, cg_Ci_kinds, cg_Ci_firsts, cg_Ci_seconds, cg_Ci_inputVariables, cg_Ci_names, cg_Ci_nameLengths, cg_Ci_size, cp_Ci_size, cg_Ci_inputs, cp_Ci_inputs, cg_Re_rc, cg_Re_text, cg_Re_circuit, cg_Re_token, cp_Re_token, cg_Re_start, cp_Re_start, cg_Re_next, cp_Re_next, cg_Re_open, cp_Re_open, cg_Re_fault, cp_Re_fault, cg_Re_faultPlace, cp_Re_faultPlace, cg_Sa_rc, cg_Sa_circuit, cg_Sa_before, cg_Sa_trueBranches, cg_Sa_falseBranches, cg_Sa_tallies, cg_Sa_mostSteps, cp_Sa_mostSteps, cg_Sa_spent, cp_Sa_spent, cg_Ta_rc, cg_Ta_circuit, cg_Ta_words, cr_kinds, cw_kinds, cr_firsts, cw_firsts, cr_seconds, cw_seconds, cr_inputVariables, cw_inputVariables, cr_nameLengths, cw_nameLengths, cr_tallies, cw_tallies, cr_bytes, cw_bytes, cr_words, cw_words, cl_tallies, cr_names, cr_trueB, cr_falseB, cr_name, cw_name, cq_rc, cq_st, cq_size, cq_classes, cq_contradiction, cqp_size, cqp_classes, cqp_contradiction, cq_rd, cq_wr, cq_copy, cl_s_1, cl_s_2, cl_ar_1, cl_ar_2, cl_w_1, cl_w_2, nL_2, xo_in, nI_clamp]
  by_cases h : τ.1 (j + 1) v = nI (2 * v) <;> simp [h]
/-- the rows of a join -/
theorem c_unite_loop {hi lo : Nat} (hj : j ∈ cl_eo) (h1 : τ.1 j 1 = nI n) (hn : n ≤ 120) (hhi : hi < 240) (hlo : lo < 240) {S : Nat → Nat} (hS : ∀ v, v < n → τ.1 (j + 1) v = nI (S v) ∧ S v < 240) {l1 l2 : Option Value} : ∀ (m v : Nat), v + m = n → (ev_R X d m_Eq_unite 63 [some (.ref (B + j)), l1, l2, some (.int (nI lo)), some (.int (nI hi)), some (.int (nI v))] [] (cl_put B (cl_ar τ (j + 1) (fun u => if u < v ∧ hi / 2 ≤ u then nI (cs_nw hi lo (S u)) else τ.1 (j + 1) u)) g) Q ↔ ev_R X d m_Eq_unite 106 [some (.ref (B + j)), l1, l2, some (.int (nI lo)), some (.int (nI hi)), some (.int (nI n))] [] (cl_put B (cl_ar τ (j + 1) (fun u => if u < n ∧ hi / 2 ≤ u then nI (cs_nw hi lo (S u)) else τ.1 (j + 1) u)) g) Q) ∨ v < hi / 2 := by
  have hne : ¬ j = j + 1 := by omega
  intro m
  induction m with
  | zero =>
    intro v hv
    left
    have e : v = n := by omega
    subst e
    simp (disch := first | exact ev_ok_i _ | exact ev_ok_r _ | exact ev_ok_n | omega | assumption) only [e_Eq_unite_63, e_Eq_unite_65, e_Eq_unite_66, e_Eq_unite_69, ev_rm_n, ev_rm_i, ev_rm_r, ev_rm_l, ev_ok_n, ev_ok_i, ev_ok_r, Option.toList_some, Option.toList_none, List.cons_append, List.nil_append, true_and, and_true, true_or, or_true, reduceIte, Nat.reduceEqDiff, if_true, if_false, cg_Dp_rc, cg_Dp_text, cg_Dp_circuit, cg_Dp_reader, cg_Dp_current, cg_Dp_working, cg_Dp_saturator, cg_Dp_table, cg_Te_rc, cg_Te_bytes, cg_Te_length, cp_Te_length, cg_Ci_rc, cg_Ci_kinds, cg_Ci_firsts, cg_Ci_seconds, cg_Ci_inputVariables, cg_Ci_names, cg_Ci_nameLengths, cg_Ci_size, cp_Ci_size, cg_Ci_inputs, cp_Ci_inputs, cg_Re_rc, cg_Re_text, cg_Re_circuit, cg_Re_token, cp_Re_token, cg_Re_start, cp_Re_start, cg_Re_next, cp_Re_next, cg_Re_open, cp_Re_open, cg_Re_fault, cp_Re_fault, cg_Re_faultPlace, cp_Re_faultPlace, cg_Sa_rc, cg_Sa_circuit, cg_Sa_before, cg_Sa_trueBranches, cg_Sa_falseBranches, cg_Sa_tallies, cg_Sa_mostSteps, cp_Sa_mostSteps, cg_Sa_spent, cp_Sa_spent, cg_Ta_rc, cg_Ta_circuit, cg_Ta_words, cr_kinds, cw_kinds, cr_firsts, cw_firsts, cr_seconds, cw_seconds, cr_inputVariables, cw_inputVariables, cr_nameLengths, cw_nameLengths, cr_tallies, cw_tallies, cr_bytes, cw_bytes, cr_words, cw_words, cl_tallies, cr_names, cr_trueB, cr_falseB, cr_name, cw_name, cq_rc, cq_st, cq_size, cq_classes, cq_contradiction, cqp_size, cqp_classes, cqp_contradiction, cq_rd, cq_wr, cq_copy, cl_s_1, cl_s_2, cl_ar_1, cl_ar_2, cl_w_1, cl_w_2, hne, h1, nI_leI, Nat.le_refl]
  | succ m ih =>
    intro v hv
    by_cases hlt : v < hi / 2
    · exact Or.inr hlt
    · left
      obtain ⟨s1, s2⟩ := hS v (by omega)
      have hnv : ¬ n ≤ v := by omega
      have hx := cs_lt8 s2 hhi
      have hih := (ih (v + 1) (by omega)).resolve_right (by omega)
      have hvv : ¬ (v < v ∧ hi / 2 ≤ v) := by omega
      simp (disch := first | exact ev_ok_i _ | exact ev_ok_r _ | exact ev_ok_n | omega | assumption) only [e_Eq_unite_63, e_Eq_unite_65, e_Eq_unite_66, e_Eq_unite_69, e_Eq_unite_72, e_Eq_unite_73, e_Eq_unite_76, e_Eq_unite_78, e_Eq_unite_79, e_Eq_unite_81, e_Eq_unite_82, e_Eq_unite_83, e_Eq_unite_86, e_Eq_unite_87, e_Eq_unite_90, e_Eq_unite_92, e_Eq_unite_93, e_Eq_unite_94, e_Eq_unite_96, e_Eq_unite_97, e_Eq_unite_98, ev_rm_n, ev_rm_i, ev_rm_r, ev_rm_l, ev_ok_n, ev_ok_i, ev_ok_r, Option.toList_some, Option.toList_none, List.cons_append, List.nil_append, true_and, and_true, true_or, or_true, reduceIte, Nat.reduceEqDiff, if_true, if_false, cg_Dp_rc, cg_Dp_text, cg_Dp_circuit, cg_Dp_reader, cg_Dp_current, cg_Dp_working, cg_Dp_saturator, cg_Dp_table, cg_Te_rc, cg_Te_bytes, cg_Te_length, cp_Te_length, cg_Ci_rc, cg_Ci_kinds, cg_Ci_firsts, cg_Ci_seconds, cg_Ci_inputVariables, cg_Ci_names, cg_Ci_nameLengths, cg_Ci_size, cp_Ci_size, cg_Ci_inputs, cp_Ci_inputs, cg_Re_rc, cg_Re_text, cg_Re_circuit, cg_Re_token, cp_Re_token, cg_Re_start, cp_Re_start, cg_Re_next, cp_Re_next, cg_Re_open, cp_Re_open, cg_Re_fault, cp_Re_fault, cg_Re_faultPlace, cp_Re_faultPlace, cg_Sa_rc, cg_Sa_circuit, cg_Sa_before, cg_Sa_trueBranches, cg_Sa_falseBranches, cg_Sa_tallies, cg_Sa_mostSteps, cp_Sa_mostSteps, cg_Sa_spent, cp_Sa_spent, cg_Ta_rc, cg_Ta_circuit, cg_Ta_words, cr_kinds, cw_kinds, cr_firsts, cw_firsts, cr_seconds, cw_seconds, cr_inputVariables, cw_inputVariables, cr_nameLengths, cw_nameLengths, cr_tallies, cw_tallies, cr_bytes, cw_bytes, cr_words, cw_words, cl_tallies, cr_names, cr_trueB, cr_falseB, cr_name, cw_name, cq_rc, cq_st, cq_size, cq_classes, cq_contradiction, cqp_size, cqp_classes, cqp_contradiction, cq_rd, cq_wr, cq_copy, cl_s_1, cl_s_2, cl_ar_1, cl_ar_2, cl_w_1, cl_w_2, hne, h1, nI_leI, hnv, xo_in, nI_clamp, hvv, s1, nL_x, nC_1]
      by_cases c : S v ^^^ hi ≤ 1
      · have c' : ¬ 1 < S v ^^^ hi := by omega
        simp (disch := first | exact ev_ok_i _ | exact ev_ok_r _ | exact ev_ok_n | omega | assumption) only [c', e_Eq_unite_99, e_Eq_unite_100, e_Eq_unite_103, ev_rm_n, ev_rm_i, ev_rm_r, ev_rm_l, ev_ok_n, ev_ok_i, ev_ok_r, Option.toList_some, Option.toList_none, List.cons_append, List.nil_append, true_and, and_true, true_or, or_true, reduceIte, Nat.reduceEqDiff, if_true, if_false, cg_Dp_rc, cg_Dp_text, cg_Dp_circuit, cg_Dp_reader, cg_Dp_current, cg_Dp_working, cg_Dp_saturator, cg_Dp_table, cg_Te_rc, cg_Te_bytes, cg_Te_length, cp_Te_length, cg_Ci_rc, cg_Ci_kinds, cg_Ci_firsts, cg_Ci_seconds, cg_Ci_inputVariables, cg_Ci_names, cg_Ci_nameLengths, cg_Ci_size, cp_Ci_size, cg_Ci_inputs, cp_Ci_inputs, cg_Re_rc, cg_Re_text, cg_Re_circuit, cg_Re_token, cp_Re_token, cg_Re_start, cp_Re_start, cg_Re_next, cp_Re_next, cg_Re_open, cp_Re_open, cg_Re_fault, cp_Re_fault, cg_Re_faultPlace, cp_Re_faultPlace, cg_Sa_rc, cg_Sa_circuit, cg_Sa_before, cg_Sa_trueBranches, cg_Sa_falseBranches, cg_Sa_tallies, cg_Sa_mostSteps, cp_Sa_mostSteps, cg_Sa_spent, cp_Sa_spent, cg_Ta_rc, cg_Ta_circuit, cg_Ta_words, cr_kinds, cw_kinds, cr_firsts, cw_firsts, cr_seconds, cw_seconds, cr_inputVariables, cw_inputVariables, cr_nameLengths, cw_nameLengths, cr_tallies, cw_tallies, cr_bytes, cw_bytes, cr_words, cw_words, cl_tallies, cr_names, cr_trueB, cr_falseB, cr_name, cw_name, cq_rc, cq_st, cq_size, cq_classes, cq_contradiction, cqp_size, cqp_classes, cqp_contradiction, cq_rd, cq_wr, cq_copy, cl_s_1, cl_s_2, cl_ar_1, cl_ar_2, cl_w_1, cl_w_2, xo_in, nI_clamp, nI_1, cl_s_ar]
        rw [← hih]
        have ef : upd (fun u => if u < v ∧ hi / 2 ≤ u then nI (cs_nw hi lo (S u)) else τ.1 (j + 1) u) v (nI (S v ^^^ (hi ^^^ lo))) = (fun u => if u < v + 1 ∧ hi / 2 ≤ u then nI (cs_nw hi lo (S u)) else τ.1 (j + 1) u) := by
          funext u
          rw [upd_a]
          by_cases e : u = v
          · subst e
            rw [if_pos rfl, if_pos (by omega), cs_nw, if_pos c]
          · rw [if_neg e]
            by_cases e2 : u < v ∧ hi / 2 ≤ u
            · rw [if_pos e2, if_pos (by omega)]
            · rw [if_neg e2, if_neg (by omega)]
        rw [ef]
      · have c' : 1 < S v ^^^ hi := by omega
        simp (disch := first | exact ev_ok_i _ | exact ev_ok_r _ | exact ev_ok_n | omega | assumption) only [c', e_Eq_unite_100, e_Eq_unite_103, ev_rm_n, ev_rm_i, ev_rm_r, ev_rm_l, ev_ok_n, ev_ok_i, ev_ok_r, Option.toList_some, Option.toList_none, List.cons_append, List.nil_append, true_and, and_true, true_or, or_true, reduceIte, Nat.reduceEqDiff, if_true, if_false, nI_1]
        rw [← hih]
        have ef : (fun u => if u < v ∧ hi / 2 ≤ u then nI (cs_nw hi lo (S u)) else τ.1 (j + 1) u) = (fun u => if u < v + 1 ∧ hi / 2 ≤ u then nI (cs_nw hi lo (S u)) else τ.1 (j + 1) u) := by
          funext u
          by_cases e : u = v
          · subst e
            rw [if_neg (by omega), if_pos (by omega), cs_nw, if_neg c, s1]
          · by_cases e2 : u < v ∧ hi / 2 ≤ u
            · rw [if_pos e2, if_pos (by omega)]
            · rw [if_neg e2, if_neg (by omega)]
        rw [ef]
theorem c_unite {a b : Nat} {E : sp_E} (hj : j ∈ cl_eo) (hn : n ≤ 120) (hE : cl_E τ j n E) (hv : sp_va n E) (ha : a < 2 * n) (hb : b < 2 * n) (hQ : ∀ τ2, cl_E τ2 j n (sp_j E a b) → cl_ke (cl_J j) τ τ2 → Q none (cl_put B τ2 g)) : ev_C X (d + 1) m_Eq_unite [.ref (B + j), .int (nI a), .int (nI b)] (cl_put B τ g) Q := by
  show ev_R X (d + 1) m_Eq_unite 0 [some (.ref (B + j)), some (.int (nI a)), some (.int (nI b)), none, none, none] [] (cl_put B τ g) Q
  have hne : ¬ j = j + 1 := by omega
  have ha2 : a < 240 := by omega
  have hb2 : b < 240 := by omega
  cases h0 : E.2 with
  | true =>
    have e : sp_j E a b = E := by unfold sp_j; rw [if_pos (Or.inl h0)]
    rw [e] at hQ
    have h3 : τ.1 j 3 = 1 := by rw [hE.2.1, h0]; rfl
    have h10 : ¬ (1 : Int32) = 0 := by decide
    simp (disch := first | exact ev_ok_i _ | exact ev_ok_r _ | exact ev_ok_n | omega | assumption) only [e_Eq_unite_0, e_Eq_unite_1, e_Eq_unite_2, e_Eq_unite_5, e_Eq_unite_6, e_Eq_unite_7, e_Eq_unite_10, e_Eq_unite_13, e_Eq_unite_14, e_Eq_unite_15, e_Eq_unite_16, e_Eq_unite_19, e_Eq_unite_20, e_Eq_unite_21, e_Eq_unite_24, e_Eq_unite_27, e_Eq_unite_29, e_Eq_unite_30, e_Eq_unite_33, e_Eq_unite_36, e_Eq_unite_37, e_Eq_unite_39, e_Eq_unite_42, ev_rm_n, ev_rm_i, ev_rm_r, ev_rm_l, ev_ok_n, ev_ok_i, ev_ok_r, Option.toList_some, Option.toList_none, List.cons_append, List.nil_append, true_and, and_true, true_or, or_true, reduceIte, Nat.reduceEqDiff, if_true, if_false, cg_Dp_rc, cg_Dp_text, cg_Dp_circuit, cg_Dp_reader, cg_Dp_current, cg_Dp_working, cg_Dp_saturator, cg_Dp_table, cg_Te_rc, cg_Te_bytes, cg_Te_length, cp_Te_length, cg_Ci_rc, cg_Ci_kinds, cg_Ci_firsts, cg_Ci_seconds, cg_Ci_inputVariables, cg_Ci_names, cg_Ci_nameLengths, cg_Ci_size, cp_Ci_size, cg_Ci_inputs, cp_Ci_inputs, cg_Re_rc, cg_Re_text, cg_Re_circuit, cg_Re_token, cp_Re_token, cg_Re_start, cp_Re_start, cg_Re_next, cp_Re_next, cg_Re_open, cp_Re_open, cg_Re_fault, cp_Re_fault, cg_Re_faultPlace, cp_Re_faultPlace, cg_Sa_rc, cg_Sa_circuit, cg_Sa_before, cg_Sa_trueBranches, cg_Sa_falseBranches, cg_Sa_tallies, cg_Sa_mostSteps, cp_Sa_mostSteps, cg_Sa_spent, cp_Sa_spent, cg_Ta_rc, cg_Ta_circuit, cg_Ta_words, cr_kinds, cw_kinds, cr_firsts, cw_firsts, cr_seconds, cw_seconds, cr_inputVariables, cw_inputVariables, cr_nameLengths, cw_nameLengths, cr_tallies, cw_tallies, cr_bytes, cw_bytes, cr_words, cw_words, cl_tallies, cr_names, cr_trueB, cr_falseB, cr_name, cw_name, cq_rc, cq_st, cq_size, cq_classes, cq_contradiction, cqp_size, cqp_classes, cqp_contradiction, cq_rd, cq_wr, cq_copy, cl_s_1, cl_s_2, cl_ar_1, cl_ar_2, cl_w_1, cl_w_2, c_standing, h3, h10, not_false_eq_true]
    exact hQ τ hE (cl_ke_rf _ _)
  | false =>
    have h3 : τ.1 j 3 = 0 := by rw [hE.2.1, h0]; rfl
    have sa := cl_E_st hE hv h0 ha
    have sb := cl_E_st hE hv h0 hb
    have pl : E.1 a < 240 := by have := (hv a ha).1; omega
    have ql : E.1 b < 240 := by have := (hv b hb).1; omega
    have mm : (if nI (E.1 b) < nI (E.1 a) then nI (E.1 b) else nI (E.1 a)) = nI (if E.1 b < E.1 a then E.1 b else E.1 a) := by
      by_cases c : E.1 b < E.1 a
      · rw [if_pos c, if_pos ((nI_ltI (by omega) (by omega)).mpr c)]
      · rw [if_neg c, if_neg (fun z => c ((nI_ltI (by omega) (by omega)).mp z))]
    have mx : (if nI (E.1 a) < nI (E.1 b) then nI (E.1 b) else nI (E.1 a)) = nI (if E.1 a < E.1 b then E.1 b else E.1 a) := by
      by_cases c : E.1 a < E.1 b
      · rw [if_pos c, if_pos ((nI_ltI (by omega) (by omega)).mpr c)]
      · rw [if_neg c, if_neg (fun z => c ((nI_ltI (by omega) (by omega)).mp z))]
    have k1 : (if E.1 b < E.1 a then E.1 b else E.1 a) < 240 := by split <;> omega
    have k2 : (if E.1 a < E.1 b then E.1 b else E.1 a) < 240 := by split <;> omega
    have hx1 : (if E.1 a < E.1 b then E.1 b else E.1 a) ^^^ 1 < 256 := cs_lt8 k2 (by decide)
    simp (disch := first | exact ev_ok_i _ | exact ev_ok_r _ | exact ev_ok_n | omega | assumption) only [e_Eq_unite_0, e_Eq_unite_1, e_Eq_unite_2, e_Eq_unite_5, e_Eq_unite_6, e_Eq_unite_7, e_Eq_unite_10, e_Eq_unite_13, e_Eq_unite_14, e_Eq_unite_15, e_Eq_unite_16, e_Eq_unite_19, e_Eq_unite_20, e_Eq_unite_21, e_Eq_unite_24, e_Eq_unite_27, e_Eq_unite_29, e_Eq_unite_30, e_Eq_unite_33, e_Eq_unite_36, e_Eq_unite_37, e_Eq_unite_39, e_Eq_unite_42, e_Eq_unite_43, e_Eq_unite_44, e_Eq_unite_46, e_Eq_unite_47, e_Eq_unite_48, ev_rm_n, ev_rm_i, ev_rm_r, ev_rm_l, ev_ok_n, ev_ok_i, ev_ok_r, Option.toList_some, Option.toList_none, List.cons_append, List.nil_append, true_and, and_true, true_or, or_true, reduceIte, Nat.reduceEqDiff, if_true, if_false, cg_Dp_rc, cg_Dp_text, cg_Dp_circuit, cg_Dp_reader, cg_Dp_current, cg_Dp_working, cg_Dp_saturator, cg_Dp_table, cg_Te_rc, cg_Te_bytes, cg_Te_length, cp_Te_length, cg_Ci_rc, cg_Ci_kinds, cg_Ci_firsts, cg_Ci_seconds, cg_Ci_inputVariables, cg_Ci_names, cg_Ci_nameLengths, cg_Ci_size, cp_Ci_size, cg_Ci_inputs, cp_Ci_inputs, cg_Re_rc, cg_Re_text, cg_Re_circuit, cg_Re_token, cp_Re_token, cg_Re_start, cp_Re_start, cg_Re_next, cp_Re_next, cg_Re_open, cp_Re_open, cg_Re_fault, cp_Re_fault, cg_Re_faultPlace, cp_Re_faultPlace, cg_Sa_rc, cg_Sa_circuit, cg_Sa_before, cg_Sa_trueBranches, cg_Sa_falseBranches, cg_Sa_tallies, cg_Sa_mostSteps, cp_Sa_mostSteps, cg_Sa_spent, cp_Sa_spent, cg_Ta_rc, cg_Ta_circuit, cg_Ta_words, cr_kinds, cw_kinds, cr_firsts, cw_firsts, cr_seconds, cw_seconds, cr_inputVariables, cw_inputVariables, cr_nameLengths, cw_nameLengths, cr_tallies, cw_tallies, cr_bytes, cw_bytes, cr_words, cw_words, cl_tallies, cr_names, cr_trueB, cr_falseB, cr_name, cw_name, cq_rc, cq_st, cq_size, cq_classes, cq_contradiction, cqp_size, cqp_classes, cqp_contradiction, cq_rd, cq_wr, cq_copy, cl_s_1, cl_s_2, cl_ar_1, cl_ar_2, cl_w_1, cl_w_2, c_standing, sa, sb, mm, mx, h3, nL_x1, nI_eq, not_true_eq_false]
    generalize hlo : (if E.1 b < E.1 a then E.1 b else E.1 a) = lo at k1
    generalize hhi : (if E.1 a < E.1 b then E.1 b else E.1 a) = hi at k2 hx1
    have hor : lo = E.1 a ∧ hi = E.1 b ∨ lo = E.1 b ∧ hi = E.1 a := by
      rw [← hlo, ← hhi]
      by_cases c : E.1 b < E.1 a
      · rw [if_pos c, if_neg (by omega)]; exact Or.inr ⟨rfl, rfl⟩
      · rw [if_neg c]
        by_cases c2 : E.1 a < E.1 b
        · rw [if_pos c2]; exact Or.inl ⟨rfl, rfl⟩
        · rw [if_neg c2]; have : E.1 a = E.1 b := by omega
          exact Or.inl ⟨rfl, this⟩
    have hle : lo ≤ hi := by
      rw [← hlo, ← hhi]
      split <;> split <;> omega
    by_cases c1 : E.1 a = E.1 b
    · have e : sp_j E a b = E := by unfold sp_j; rw [if_pos (Or.inr c1)]
      rw [e] at hQ
      have c1' : lo = hi := by omega
      simp (disch := first | exact ev_ok_i _ | exact ev_ok_r _ | exact ev_ok_n | omega | assumption) only [c1', not_true_eq_false, ev_rm_n, ev_rm_i, ev_rm_r, ev_rm_l, ev_ok_n, ev_ok_i, ev_ok_r, Option.toList_some, Option.toList_none, List.cons_append, List.nil_append, true_and, and_true, true_or, or_true, reduceIte, Nat.reduceEqDiff, if_true, if_false, e_Eq_unite_42]
      exact hQ τ hE (cl_ke_rf _ _)
    · have c1' : ¬ lo = hi := by omega
      have en : ¬ (E.2 = true ∨ E.1 a = E.1 b) := fun z => z.elim (fun z => by rw [h0] at z; cases z) c1
      by_cases c2 : E.1 a = E.1 b ^^^ 1
      · have e : sp_j E a b = (E.1, true) := by unfold sp_j; rw [if_neg en, if_pos (by rw [(hv b hb).2.2]; exact c2)]
        rw [e] at hQ
        have c2' : lo = hi ^^^ 1 := by
          rcases hor with ⟨e1, e2⟩ | ⟨e1, e2⟩
          · rw [e1, e2, c2]
          · rw [e1, e2, c2, x1_x1]
        simp (disch := first | exact ev_ok_i _ | exact ev_ok_r _ | exact ev_ok_n | omega | assumption) only [c1', not_false_eq_true, if_true, c2'.symm, not_true_eq_false, if_false, ev_rm_n, ev_rm_i, ev_rm_r, ev_rm_l, ev_ok_n, ev_ok_i, ev_ok_r, Option.toList_some, Option.toList_none, List.cons_append, List.nil_append, true_and, and_true, true_or, or_true, reduceIte, Nat.reduceEqDiff, if_true, if_false, e_Eq_unite_51, e_Eq_unite_52, e_Eq_unite_53, e_Eq_unite_56, cg_Dp_rc, cg_Dp_text, cg_Dp_circuit, cg_Dp_reader, cg_Dp_current, cg_Dp_working, cg_Dp_saturator, cg_Dp_table, cg_Te_rc, cg_Te_bytes, cg_Te_length, cp_Te_length, cg_Ci_rc, cg_Ci_kinds, cg_Ci_firsts, cg_Ci_seconds, cg_Ci_inputVariables, cg_Ci_names, cg_Ci_nameLengths, cg_Ci_size, cp_Ci_size, cg_Ci_inputs, cp_Ci_inputs, cg_Re_rc, cg_Re_text, cg_Re_circuit, cg_Re_token, cp_Re_token, cg_Re_start, cp_Re_start, cg_Re_next, cp_Re_next, cg_Re_open, cp_Re_open, cg_Re_fault, cp_Re_fault, cg_Re_faultPlace, cp_Re_faultPlace, cg_Sa_rc, cg_Sa_circuit, cg_Sa_before, cg_Sa_trueBranches, cg_Sa_falseBranches, cg_Sa_tallies, cg_Sa_mostSteps, cp_Sa_mostSteps, cg_Sa_spent, cp_Sa_spent, cg_Ta_rc, cg_Ta_circuit, cg_Ta_words, cr_kinds, cw_kinds, cr_firsts, cw_firsts, cr_seconds, cw_seconds, cr_inputVariables, cw_inputVariables, cr_nameLengths, cw_nameLengths, cr_tallies, cw_tallies, cr_bytes, cw_bytes, cr_words, cw_words, cl_tallies, cr_names, cr_trueB, cr_falseB, cr_name, cw_name, cq_rc, cq_st, cq_size, cq_classes, cq_contradiction, cqp_size, cqp_classes, cqp_contradiction, cq_rd, cq_wr, cq_copy, cl_s_1, cl_s_2, cl_ar_1, cl_ar_2, cl_w_1, cl_w_2]
        refine hQ _ ⟨?_, ?_, fun z => by cases z⟩ (cl_ke_s τ 3 1 (Or.inl rfl))
        · rw [cl_s_1, if_pos rfl, upd_a, if_neg (by decide)]; exact hE.1
        · rw [cl_s_1, if_pos rfl, upd_a, if_pos rfl]; rfl
      · have c2' : ¬ lo = hi ^^^ 1 := by
          rcases hor with ⟨e1, e2⟩ | ⟨e1, e2⟩
          · rw [e1, e2]; exact c2
          · rw [e1, e2]; intro z; exact c2 (by rw [z, x1_x1])
        have hlt : lo / 2 < hi / 2 := by
          by_cases z : lo / 2 = hi / 2
          · rcases x1_eq z with w | w
            · exact absurd w c1'
            · exact absurd w c2'
          · omega
        have hf : ∀ x, md_jl (E.1 a) (E.1 b) (E.1 a ^^^ 1) (E.1 b ^^^ 1) x = if x = lo ∨ x = hi then lo else if x = lo ^^^ 1 ∨ x = hi ^^^ 1 then lo ^^^ 1 else x := by
          obtain ⟨lo', hi', l', o', f'⟩ := sp_jl_form c1 c2
          have : lo' = lo ∧ hi' = hi := by
            have hh : hi / 2 > lo / 2 := hlt
            rcases hor with ⟨e1, e2⟩ | ⟨e1, e2⟩ <;> rcases o' with ⟨g1, g2⟩ | ⟨g1, g2⟩ <;> constructor <;> omega
          rw [this.1, this.2] at f'
          exact f'
        have e : sp_j E a b = (fun l => md_jl (E.1 a) (E.1 b) (E.1 a ^^^ 1) (E.1 b ^^^ 1) (E.1 l), false) := by
          unfold sp_j
          rw [if_neg en, if_neg (by rw [(hv b hb).2.2]; exact c2), (hv a ha).2.2, (hv b hb).2.2]
        have hcn := sp_j_cn hv ha hb h0 c1 c2
        rw [e] at hcn hQ
        obtain ⟨f1, f2⟩ := hE.2.2 h0
        have hS : ∀ v, v < n → τ.1 (j + 1) v = nI (E.1 (2 * v)) ∧ E.1 (2 * v) < 240 := fun v hvn => ⟨f2 v hvn, by have := (hv (2 * v) (by omega)).1; omega⟩
        have hin : hi < 2 * n := by
          rcases hor with ⟨e1, e2⟩ | ⟨e1, e2⟩
          · rw [e2]; exact Nat.lt_of_le_of_lt (hv b hb).1 hb
          · rw [e2]; exact Nat.lt_of_le_of_lt (hv a ha).1 ha
        have hl := (c_unite_loop (X := X) (d := d + 1) (B := B) (g := g) (Q := Q) (hi := hi) (lo := lo) (l1 := some (.int (nI a))) (l2 := some (.int (nI b))) hj hE.1 hn k2 k1 hS (n - hi / 2) (hi / 2) (by omega)).resolve_right (by omega)
        have e0 : (fun u => if u < hi / 2 ∧ hi / 2 ≤ u then nI (cs_nw hi lo (E.1 (2 * u))) else τ.1 (j + 1) u) = τ.1 (j + 1) := by
          funext u
          rw [if_neg (by omega)]
        rw [e0, cl_ar_eq] at hl
        simp (disch := first | exact ev_ok_i _ | exact ev_ok_r _ | exact ev_ok_n | omega | assumption) only [c1', not_false_eq_true, if_true, c2', ev_rm_n, ev_rm_i, ev_rm_r, ev_rm_l, ev_ok_n, ev_ok_i, ev_ok_r, Option.toList_some, Option.toList_none, List.cons_append, List.nil_append, true_and, and_true, true_or, or_true, reduceIte, Nat.reduceEqDiff, if_true, if_false, e_Eq_unite_57, e_Eq_unite_59, e_Eq_unite_60, e_Eq_unite_61, nL_s1]
        rw [hl]
        simp (disch := first | exact ev_ok_i _ | exact ev_ok_r _ | exact ev_ok_n | omega | assumption) only [ev_rm_n, ev_rm_i, ev_rm_r, ev_rm_l, ev_ok_n, ev_ok_i, ev_ok_r, Option.toList_some, Option.toList_none, List.cons_append, List.nil_append, true_and, and_true, true_or, or_true, reduceIte, Nat.reduceEqDiff, if_true, if_false, e_Eq_unite_106, e_Eq_unite_107, e_Eq_unite_108, e_Eq_unite_111, e_Eq_unite_112, e_Eq_unite_113, e_Eq_unite_116, cg_Dp_rc, cg_Dp_text, cg_Dp_circuit, cg_Dp_reader, cg_Dp_current, cg_Dp_working, cg_Dp_saturator, cg_Dp_table, cg_Te_rc, cg_Te_bytes, cg_Te_length, cp_Te_length, cg_Ci_rc, cg_Ci_kinds, cg_Ci_firsts, cg_Ci_seconds, cg_Ci_inputVariables, cg_Ci_names, cg_Ci_nameLengths, cg_Ci_size, cp_Ci_size, cg_Ci_inputs, cp_Ci_inputs, cg_Re_rc, cg_Re_text, cg_Re_circuit, cg_Re_token, cp_Re_token, cg_Re_start, cp_Re_start, cg_Re_next, cp_Re_next, cg_Re_open, cp_Re_open, cg_Re_fault, cp_Re_fault, cg_Re_faultPlace, cp_Re_faultPlace, cg_Sa_rc, cg_Sa_circuit, cg_Sa_before, cg_Sa_trueBranches, cg_Sa_falseBranches, cg_Sa_tallies, cg_Sa_mostSteps, cp_Sa_mostSteps, cg_Sa_spent, cp_Sa_spent, cg_Ta_rc, cg_Ta_circuit, cg_Ta_words, cr_kinds, cw_kinds, cr_firsts, cw_firsts, cr_seconds, cw_seconds, cr_inputVariables, cw_inputVariables, cr_nameLengths, cw_nameLengths, cr_tallies, cw_tallies, cr_bytes, cw_bytes, cr_words, cw_words, cl_tallies, cr_names, cr_trueB, cr_falseB, cr_name, cw_name, cq_rc, cq_st, cq_size, cq_classes, cq_contradiction, cqp_size, cqp_classes, cqp_contradiction, cq_rd, cq_wr, cq_copy, cl_s_1, cl_s_2, cl_ar_1, cl_ar_2, cl_w_1, cl_w_2, hne, f1]
        rw [← hcn, nL_m2]
        refine hQ _ ⟨?_, ?_, fun _ => ⟨?_, fun v hvn => ?_⟩⟩ (cl_ke_tr (cl_ke_ar τ _ (Or.inr rfl)) (cl_ke_s _ 2 _ (Or.inl rfl)))
        · rw [cl_s_1, if_pos rfl, upd_a, if_neg (by decide), cl_ar_1, if_neg hne]; exact hE.1
        · rw [cl_s_1, if_pos rfl, upd_a, if_neg (by decide), cl_ar_1, if_neg hne]; exact h3
        · rw [cl_s_1, if_pos rfl, upd_a, if_pos rfl]
        · rw [cl_s_1, if_neg (by omega), cl_ar_1, if_pos rfl]
          dsimp only
          rw [← cs_nw_jl hlt hf]
          by_cases z : v < n ∧ hi / 2 ≤ v
          · rw [if_pos z]
          · rw [if_neg z, f2 v hvn]
            congr 1
            unfold cs_nw
            rw [if_neg]
            intro zz
            have := (hv (2 * v) (by omega)).1
            have hdd : E.1 (2 * v) / 2 = hi / 2 := by
              rcases cs_xle.mp zz with w | w
              · rw [w]
              · rw [w, x1_div]
            omega
end CQ
