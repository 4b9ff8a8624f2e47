/-! THE CLASS's table: 64 assignments in a word -/
theorem sp_as_ext {c : sp_C} {n : Nat} : ∀ (k m l : Nat), l < 2 * m → 1 ≤ m → m ≤ k → sp_as c n k l = sp_as c n m l := by
  intro k
  induction k with
  | zero => intro m l _ h1 h2; omega
  | succ k ih =>
    intro m l hl h1 h2
    by_cases e : m = k + 1
    · rw [e]
    · have hk : ¬ k = 0 := by omega
      rw [← ih m l hl h1 (by omega)]
      conv => lhs; unfold sp_as
      rw [if_neg hk]
      rw [if_neg (by omega), if_neg (by omega)]
theorem sp_vl_0 {c : sp_C} (h : 1 ≤ cN c) (n : Nat) : sp_vl c n 0 = true ∧ sp_vl c n 1 = false := by
  unfold sp_vl
  rw [sp_as_ext (cN c) 1 0 (by decide) (Nat.le_refl 1) h, sp_as_ext (cN c) 1 1 (by decide) (Nat.le_refl 1) h]
  exact ⟨rfl, rfl⟩
theorem sp_vl_v {c : sp_C} (hc : sp_cok c) {v : Nat} (h1 : 1 ≤ v) (hv : v < cN c) (n : Nat) : sp_vl c n (2 * v) = sp_bx c n (sp_vl c n) v ∧ sp_vl c n (2 * v + 1) = !sp_bx c n (sp_vl c n) v := by
  have e : sp_bx c n (sp_as c n v) v = sp_bx c n (sp_vl c n) v := by
    unfold sp_bx
    by_cases k1 : cK c v = 1
    · rw [if_pos k1, if_pos k1]
    · rw [if_neg k1, if_neg k1]
      rcases hc.2.1 v h1 hv with ⟨q, -, -⟩ | ⟨-, a, b⟩
      · exact absurd q k1
      · unfold sp_vl
        rw [sp_as_ext (cN c) v (cA c v) a h1 (by omega), sp_as_ext (cN c) v (cB c v) b h1 (by omega)]
  rw [← e]
  unfold sp_vl
  rw [sp_as_ext (cN c) (v + 1) (2 * v) (by omega) (by omega) hv, sp_as_ext (cN c) (v + 1) (2 * v + 1) (by omega) (by omega) hv]
  have hk : ¬ v = 0 := by omega
  refine ⟨?_, ?_⟩
  · conv => lhs; unfold sp_as
    rw [if_neg hk]
    rw [if_pos rfl]
  · conv => lhs; unfold sp_as
    rw [if_neg hk]
    rw [if_neg (by omega), if_pos rfl]
theorem sp_vl_not {c : sp_C} (hc : sp_cok c) {v : Nat} (hv : v < cN c) (n : Nat) : sp_vl c n (2 * v + 1) = !sp_vl c n (2 * v) := by
  by_cases h : v = 0
  · rw [h]
    have := sp_vl_0 hc.1.1 n
    rw [show 2 * 0 + 1 = 1 from rfl, show 2 * 0 = 0 from rfl, this.1, this.2]
    rfl
  · have := sp_vl_v hc (by omega) hv n
    rw [this.1, this.2]
/-- only the inputs' bits count -/
theorem sp_vl_mod {c : sp_C} (hc : sp_cok c) (n : Nat) : ∀ v, v < cN c → sp_vl c n (2 * v) = sp_vl c (n % 2 ^ cI c) (2 * v) := by
  intro v
  induction v using Nat.strongRecOn with
  | _ v ih =>
    intro hv
    by_cases h : v = 0
    · rw [h]
      exact (sp_vl_0 hc.1.1 n).1.trans (sp_vl_0 hc.1.1 _).1.symm
    · have lt : ∀ l, l < 2 * v → sp_vl c n l = sp_vl c (n % 2 ^ cI c) l := fun l hl => by
        have := ih (l / 2) (by omega) (by omega)
        rcases Nat.mod_two_eq_zero_or_one l with z | z
        · have e : 2 * (l / 2) = l := by omega
          rw [e] at this
          exact this
        · have e : l = 2 * (l / 2) + 1 := by omega
          rw [e, sp_vl_not hc (by omega), sp_vl_not hc (by omega), this]
      rw [(sp_vl_v hc (by omega) hv n).1, (sp_vl_v hc (by omega) hv _).1]
      unfold sp_bx
      rcases hc.2.1 v (by omega) hv with ⟨q, a, -⟩ | ⟨q, a, b⟩
      · rw [if_pos q, if_pos q, Nat.testBit_mod_two_pow]
        simp [a]
      · have k1 : ¬ cK c v = 1 := by omega
        rw [if_neg k1, if_neg k1, lt _ a, lt _ b]
def cl_WX (X : xo_X) (B : Nat) (g : xo_G) : Prop := ∃ a, X.2.2.2.2.1 0 = .ref a ∧ ((a < B ∨ B + 63 ≤ a) ∧ g.1 a = none) ∧ X.2.2.1 a = some (6, cs_pt)
/-- the words of the first m variables are right for block b -/
def cs_W (c : sp_C) (f : Nat → Int64) (b m : Nat) : Prop := ∀ u, u < m → ∀ j, j < 64 → cs_wb (f u) j = sp_vl c (64 * b + j) (2 * u)
def cs_wd (f : Nat → Int64) (l : Nat) : Int64 := if l % 2 = 0 then f (l / 2) else f (l / 2) ^^^ (-1)
theorem cs_wd_ok {c : sp_C} (hc : sp_cok c) {f : Nat → Int64} {b m l : Nat} (h : cs_W c f b m) (hm : m ≤ cN c) (hl : l < 2 * m) : ∀ j, j < 64 → cs_wb (cs_wd f l) j = sp_vl c (64 * b + j) l := by
  intro j hj
  have := h (l / 2) (by omega) j hj
  unfold cs_wd
  rcases Nat.mod_two_eq_zero_or_one l with z | z
  · rw [if_pos z, this]
    congr 1
    omega
  · have e : l = 2 * (l / 2) + 1 := by omega
    rw [if_neg (by omega), cs_wb_xor, cs_wb_m1 hj, this, Bool.xor_true]
    conv => rhs; rw [e]
    rw [sp_vl_not hc (by omega)]
section TA1
variable {X : xo_X} {d B : Nat} {τ : cl_S} {g : xo_G} {Q : Option Value → xo_G → Prop} {c : sp_C}
theorem c_taWord {l : Nat} (hl : l < 240) : ev_C X d m_Ta_word [.ref (B + 61), .int (nI l)] (cl_put B τ g) Q ↔ Q (some (.long (cs_wd τ.2 l))) (cl_put B τ g) := by
  show ev_R X d m_Ta_word 0 [some (.ref (B + 61)), some (.int (nI l))] [] (cl_put B τ g) Q ↔ _
  have e0 : nI (l % 2) = 0 ↔ l % 2 = 0 := nE_0 (by omega)
  simp (disch := first | exact ev_ok_i _ | exact ev_ok_r _ | exact ev_ok_n | omega | assumption | decide) only [e_Ta_word_0, e_Ta_word_1, e_Ta_word_2, e_Ta_word_3, e_Ta_word_6, e_Ta_word_7, e_Ta_word_10, e_Ta_word_11, e_Ta_word_12, e_Ta_word_13, e_Ta_word_14, e_Ta_word_17, e_Ta_word_18, e_Ta_word_21, e_Ta_word_22, e_Ta_word_23, e_Ta_word_24, e_Ta_word_25, e_Ta_word_28, e_Ta_word_29, ev_rm_n, ev_rm_i, ev_rm_r, ev_rm_l, ev_ok_n, ev_ok_i, ev_ok_r, Option.toList_some, Option.toList_none, List.cons_append, List.nil_append, true_and, and_true, true_or, or_true, reduceIte, Nat.reduceEqDiff, if_true, if_false, cg_Dp_rc, cg_Dp_text, cg_Dp_circuit, cg_Dp_reader, cg_Dp_current, cg_Dp_working, cg_Dp_saturator, cg_Dp_table, cg_Te_rc, cg_Te_bytes, cg_Te_length, cp_Te_length, cg_Ci_rc, cg_Ci_kinds, cg_Ci_firsts, cg_Ci_seconds, cg_Ci_inputVariables, cg_Ci_names, cg_Ci_nameLengths, cg_Ci_size, cp_Ci_size, cg_Ci_inputs, cp_Ci_inputs, cg_Re_rc, cg_Re_text, cg_Re_circuit, cg_Re_token, cp_Re_token, cg_Re_start, cp_Re_start, cg_Re_next, cp_Re_next, cg_Re_open, cp_Re_open, cg_Re_fault, cp_Re_fault, cg_Re_faultPlace, cp_Re_faultPlace, cg_Sa_rc, cg_Sa_circuit, cg_Sa_before, cg_Sa_trueBranches, cg_Sa_falseBranches, cg_Sa_tallies, cg_Sa_mostSteps, cp_Sa_mostSteps, cg_Sa_spent, cp_Sa_spent, cg_Ta_rc, cg_Ta_circuit, cg_Ta_words, cr_kinds, cw_kinds, cr_firsts, cw_firsts, cr_seconds, cw_seconds, cr_inputVariables, cw_inputVariables, cr_nameLengths, cw_nameLengths, cr_tallies, cw_tallies, cr_bytes, cw_bytes, cr_words, cw_words, cl_tallies, cr_names, cr_trueB, cr_falseB, cr_name, cw_name, cq_rc, cq_st, cq_size, cq_classes, cq_contradiction, cqp_size, cqp_classes, cqp_contradiction, cq_rd, cq_wr, cq_copy, cl_s_1, cl_s_2, cl_ar_1, cl_ar_2, cl_w_1, cl_w_2, nL_a1, nL_s1, e0, xo_in, nI_clamp]
  unfold cs_wd
  by_cases z : l % 2 = 0 <;> simp [z]
theorem c_inputWord {i b : Nat} (hX : cl_WX X B g) (hi : i < 24) (hb : b < 2 ^ 25) (hQ : ∀ x, (∀ j, j < 64 → cs_wb x j = (64 * b + j).testBit i) → Q (some (.long x)) (cl_put B τ g)) : ev_C X d m_Ta_inputWord [.int (nI i), .int (nI b)] (cl_put B τ g) Q := by
  show ev_R X d m_Ta_inputWord 0 [some (.int (nI i)), some (.int (nI b))] [] (cl_put B τ g) Q
  have c6 : (6 : Int32) ≤ nI i ↔ 6 ≤ i := nI_leI (a := 6) (by decide) (by omega)
  have tb : ∀ j, j < 64 → (64 * b + j).testBit i = if i < 6 then j.testBit i else b.testBit (i - 6) := fun j hj => Nat.testBit_two_pow_mul_add (i := 6) b hj i
  simp (disch := first | exact ev_ok_i _ | exact ev_ok_r _ | exact ev_ok_n | omega | assumption | decide) only [e_Ta_inputWord_0, e_Ta_inputWord_1, e_Ta_inputWord_3, ev_rm_n, ev_rm_i, ev_rm_r, ev_rm_l, ev_ok_n, ev_ok_i, ev_ok_r, Option.toList_some, Option.toList_none, List.cons_append, List.nil_append, true_and, and_true, true_or, or_true, reduceIte, Nat.reduceEqDiff, if_true, if_false, c6]
  by_cases h : 6 ≤ i
  · have sub : nI i - 6 = nI (i - 6) := nL_sub (b := 6) h
    have hd : b / 2 ^ (i - 6) < 2 ^ 31 := Nat.lt_of_le_of_lt (Nat.div_le_self _ _) (by omega)
    simp (disch := first | exact ev_ok_i _ | exact ev_ok_r _ | exact ev_ok_n | omega | assumption | decide) only [h, if_true, e_Ta_inputWord_12, e_Ta_inputWord_13, e_Ta_inputWord_14, e_Ta_inputWord_16, e_Ta_inputWord_17, e_Ta_inputWord_18, e_Ta_inputWord_19, e_Ta_inputWord_20, e_Ta_inputWord_21, e_Ta_inputWord_22, ev_rm_n, ev_rm_i, ev_rm_r, ev_rm_l, ev_ok_n, ev_ok_i, ev_ok_r, Option.toList_some, Option.toList_none, List.cons_append, List.nil_append, true_and, and_true, true_or, or_true, reduceIte, Nat.reduceEqDiff, if_true, if_false, sub, cs_usr, nL_a1]
    refine hQ _ (fun j hj => ?_)
    rw [tb j hj, if_neg (by omega), Nat.testBit_eq_decide_div_mod_eq]
    rcases Nat.mod_two_eq_zero_or_one (b / 2 ^ (i - 6)) with z | z
    · rw [z]
      have e : -(nI 0).toInt64 = 0 := by decide
      rw [e]
      exact cs_wb_0.mp rfl j hj
    · rw [z]
      have e : -(nI 1).toInt64 = -1 := by decide
      rw [e]
      exact cs_wb_m1 hj
  · obtain ⟨a, h1, ⟨h2, h3⟩, h4⟩ := hX
    have n1 := cl_out (τ := τ) h2 h3
    have la : ∀ (K : Int64 → Prop), ev_la X (cl_put B τ g) a (nI i) K ↔ K (cs_pt i) := fun K => by
      unfold ev_la xo_rl
      rw [n1]
      simp only [h4]
      rw [xo_in (by omega : i < 6) (by decide), nI_clamp (by omega)]
      simp
    simp (disch := first | exact ev_ok_i _ | exact ev_ok_r _ | exact ev_ok_n | omega | assumption | decide) only [h, if_false, e_Ta_inputWord_6, ev_rm_n, ev_rm_i, ev_rm_r, ev_rm_l, ev_ok_n, ev_ok_i, ev_ok_r, Option.toList_some, Option.toList_none, List.cons_append, List.nil_append, true_and, and_true, true_or, or_true, reduceIte, Nat.reduceEqDiff, if_true, if_false, h1]
    simp (disch := first | exact ev_ok_i _ | exact ev_ok_r _ | exact ev_ok_n | omega | assumption | decide) only [e_Ta_inputWord_9, e_Ta_inputWord_10, e_Ta_inputWord_11, ev_rm_n, ev_rm_i, ev_rm_r, ev_rm_l, ev_ok_n, ev_ok_i, ev_ok_r, Option.toList_some, Option.toList_none, List.cons_append, List.nil_append, true_and, and_true, true_or, or_true, reduceIte, Nat.reduceEqDiff, if_true, if_false, la]
    refine hQ _ (fun j hj => ?_)
    rw [tb j hj, if_pos (by omega)]
    exact cs_pat ⟨i, by omega⟩ ⟨j, hj⟩
theorem c_taWordOf {v b : Nat} (hX : cl_WX X B g) (hc : cl_cR τ c) (hok : sp_cok c) (hv : v < cN c) (hb : b < 2 ^ 25) (hW : cs_W c τ.2 b v) (hQ : ∀ x, (∀ j, j < 64 → cs_wb x j = sp_vl c (64 * b + j) (2 * v)) → Q (some (.long x)) (cl_put B τ g)) : ev_C X (d + 1) m_Ta_wordOf [.ref (B + 61), .int (nI v), .int (nI b)] (cl_put B τ g) Q := by
  show ev_R X (d + 1) m_Ta_wordOf 0 [some (.ref (B + 61)), some (.int (nI v)), some (.int (nI b))] [] (cl_put B τ g) Q
  have hn := hok.1.2.1
  have hv120 : v < 120 := by omega
  obtain ⟨f0, f1, f2, b0, b1, b2⟩ := hc.1.2 v hv
  simp (disch := first | exact ev_ok_i _ | exact ev_ok_r _ | exact ev_ok_n | omega | assumption | decide) only [e_Ta_wordOf_0, e_Ta_wordOf_1, e_Ta_wordOf_4, e_Ta_wordOf_5, ev_rm_n, ev_rm_i, ev_rm_r, ev_rm_l, ev_ok_n, ev_ok_i, ev_ok_r, Option.toList_some, Option.toList_none, List.cons_append, List.nil_append, true_and, and_true, true_or, or_true, reduceIte, Nat.reduceEqDiff, if_true, if_false, cg_Dp_rc, cg_Dp_text, cg_Dp_circuit, cg_Dp_reader, cg_Dp_current, cg_Dp_working, cg_Dp_saturator, cg_Dp_table, cg_Te_rc, cg_Te_bytes, cg_Te_length, cp_Te_length, cg_Ci_rc, cg_Ci_kinds, cg_Ci_firsts, cg_Ci_seconds, cg_Ci_inputVariables, cg_Ci_names, cg_Ci_nameLengths, cg_Ci_size, cp_Ci_size, cg_Ci_inputs, cp_Ci_inputs, cg_Re_rc, cg_Re_text, cg_Re_circuit, cg_Re_token, cp_Re_token, cg_Re_start, cp_Re_start, cg_Re_next, cp_Re_next, cg_Re_open, cp_Re_open, cg_Re_fault, cp_Re_fault, cg_Re_faultPlace, cp_Re_faultPlace, cg_Sa_rc, cg_Sa_circuit, cg_Sa_before, cg_Sa_trueBranches, cg_Sa_falseBranches, cg_Sa_tallies, cg_Sa_mostSteps, cp_Sa_mostSteps, cg_Sa_spent, cp_Sa_spent, cg_Ta_rc, cg_Ta_circuit, cg_Ta_words, cr_kinds, cw_kinds, cr_firsts, cw_firsts, cr_seconds, cw_seconds, cr_inputVariables, cw_inputVariables, cr_nameLengths, cw_nameLengths, cr_tallies, cw_tallies, cr_bytes, cw_bytes, cr_words, cw_words, cl_tallies, cr_names, cr_trueB, cr_falseB, cr_name, cw_name, cq_rc, cq_st, cq_size, cq_classes, cq_contradiction, cqp_size, cqp_classes, cqp_contradiction, cq_rd, cq_wr, cq_copy, cl_s_1, cl_s_2, cl_ar_1, cl_ar_2, cl_w_1, cl_w_2, c_ciKind, f0]
  rw [e_Ta_wordOf_8]
  have e0 : nI (cK c v) = 0 ↔ cK c v = 0 := nE_0 b0
  have e1 : nI (cK c v) = 1 ↔ cK c v = 1 := nE_1 b0
  have e2 : nI (cK c v) = 2 ↔ cK c v = 2 := nE_2 b0
  simp only [e0, e1, e2]
  by_cases h0 : v = 0
  · have k0 : cK c v = 0 := by rw [h0]; exact hok.2.2.1.1
    rw [if_pos k0]
    simp (disch := first | exact ev_ok_i _ | exact ev_ok_r _ | exact ev_ok_n | omega | assumption | decide) only [e_Ta_wordOf_36, e_Ta_wordOf_39, ev_rm_n, ev_rm_i, ev_rm_r, ev_rm_l, ev_ok_n, ev_ok_i, ev_ok_r, Option.toList_some, Option.toList_none, List.cons_append, List.nil_append, true_and, and_true, true_or, or_true, reduceIte, Nat.reduceEqDiff, if_true, if_false]
    refine hQ _ (fun j hj => ?_)
    rw [cs_wb_m1 hj, h0]
    exact (sp_vl_0 hok.1.1 _).1.symm
  · have vv := fun n => (sp_vl_v hok (by omega) hv n).1
    rcases hok.2.1 v (by omega) hv with ⟨q, a, -⟩ | ⟨q, a, bb⟩
    · rw [if_neg (by omega), if_pos q]
      have hi24 := hok.1.2.2
      simp (disch := first | exact ev_ok_i _ | exact ev_ok_r _ | exact ev_ok_n | omega | assumption | decide) only [e_Ta_wordOf_40, e_Ta_wordOf_41, e_Ta_wordOf_44, e_Ta_wordOf_45, e_Ta_wordOf_48, e_Ta_wordOf_49, ev_rm_n, ev_rm_i, ev_rm_r, ev_rm_l, ev_ok_n, ev_ok_i, ev_ok_r, Option.toList_some, Option.toList_none, List.cons_append, List.nil_append, true_and, and_true, true_or, or_true, reduceIte, Nat.reduceEqDiff, if_true, if_false, cg_Dp_rc, cg_Dp_text, cg_Dp_circuit, cg_Dp_reader, cg_Dp_current, cg_Dp_working, cg_Dp_saturator, cg_Dp_table, cg_Te_rc, cg_Te_bytes, cg_Te_length, cp_Te_length, cg_Ci_rc, cg_Ci_kinds, cg_Ci_firsts, cg_Ci_seconds, cg_Ci_inputVariables, cg_Ci_names, cg_Ci_nameLengths, cg_Ci_size, cp_Ci_size, cg_Ci_inputs, cp_Ci_inputs, cg_Re_rc, cg_Re_text, cg_Re_circuit, cg_Re_token, cp_Re_token, cg_Re_start, cp_Re_start, cg_Re_next, cp_Re_next, cg_Re_open, cp_Re_open, cg_Re_fault, cp_Re_fault, cg_Re_faultPlace, cp_Re_faultPlace, cg_Sa_rc, cg_Sa_circuit, cg_Sa_before, cg_Sa_trueBranches, cg_Sa_falseBranches, cg_Sa_tallies, cg_Sa_mostSteps, cp_Sa_mostSteps, cg_Sa_spent, cp_Sa_spent, cg_Ta_rc, cg_Ta_circuit, cg_Ta_words, cr_kinds, cw_kinds, cr_firsts, cw_firsts, cr_seconds, cw_seconds, cr_inputVariables, cw_inputVariables, cr_nameLengths, cw_nameLengths, cr_tallies, cw_tallies, cr_bytes, cw_bytes, cr_words, cw_words, cl_tallies, cr_names, cr_trueB, cr_falseB, cr_name, cw_name, cq_rc, cq_st, cq_size, cq_classes, cq_contradiction, cqp_size, cqp_classes, cqp_contradiction, cq_rd, cq_wr, cq_copy, cl_s_1, cl_s_2, cl_ar_1, cl_ar_2, cl_w_1, cl_w_2, c_ciFirst, f1]
      refine c_inputWord hX (by omega) hb (fun x hx => ?_)
      simp (disch := first | exact ev_ok_i _ | exact ev_ok_r _ | exact ev_ok_n | omega | assumption | decide) only [e_Ta_wordOf_52, ev_rm_n, ev_rm_i, ev_rm_r, ev_rm_l, ev_ok_n, ev_ok_i, ev_ok_r, Option.toList_some, Option.toList_none, List.cons_append, List.nil_append, true_and, and_true, true_or, or_true, reduceIte, Nat.reduceEqDiff, if_true, if_false]
      refine hQ x (fun j hj => ?_)
      rw [hx j hj, vv]
      unfold sp_bx
      rw [if_pos q]
    · have wa := cs_wd_ok hok hW (by omega) a
      have wb := cs_wd_ok hok hW (by omega) bb
      have la : cA c v < 240 := by omega
      have lb : cB c v < 240 := by omega
      have k1 : ¬ cK c v = 1 := by omega
      rw [if_neg (by omega), if_neg k1]
      by_cases k2 : cK c v = 2
      · rw [if_pos k2]
        simp (disch := first | exact ev_ok_i _ | exact ev_ok_r _ | exact ev_ok_n | omega | assumption | decide) only [e_Ta_wordOf_53, e_Ta_wordOf_54, e_Ta_wordOf_55, e_Ta_wordOf_58, e_Ta_wordOf_59, e_Ta_wordOf_62, e_Ta_wordOf_65, e_Ta_wordOf_66, e_Ta_wordOf_67, e_Ta_wordOf_70, e_Ta_wordOf_71, e_Ta_wordOf_74, e_Ta_wordOf_77, e_Ta_wordOf_78, ev_rm_n, ev_rm_i, ev_rm_r, ev_rm_l, ev_ok_n, ev_ok_i, ev_ok_r, Option.toList_some, Option.toList_none, List.cons_append, List.nil_append, true_and, and_true, true_or, or_true, reduceIte, Nat.reduceEqDiff, if_true, if_false, cg_Dp_rc, cg_Dp_text, cg_Dp_circuit, cg_Dp_reader, cg_Dp_current, cg_Dp_working, cg_Dp_saturator, cg_Dp_table, cg_Te_rc, cg_Te_bytes, cg_Te_length, cp_Te_length, cg_Ci_rc, cg_Ci_kinds, cg_Ci_firsts, cg_Ci_seconds, cg_Ci_inputVariables, cg_Ci_names, cg_Ci_nameLengths, cg_Ci_size, cp_Ci_size, cg_Ci_inputs, cp_Ci_inputs, cg_Re_rc, cg_Re_text, cg_Re_circuit, cg_Re_token, cp_Re_token, cg_Re_start, cp_Re_start, cg_Re_next, cp_Re_next, cg_Re_open, cp_Re_open, cg_Re_fault, cp_Re_fault, cg_Re_faultPlace, cp_Re_faultPlace, cg_Sa_rc, cg_Sa_circuit, cg_Sa_before, cg_Sa_trueBranches, cg_Sa_falseBranches, cg_Sa_tallies, cg_Sa_mostSteps, cp_Sa_mostSteps, cg_Sa_spent, cp_Sa_spent, cg_Ta_rc, cg_Ta_circuit, cg_Ta_words, cr_kinds, cw_kinds, cr_firsts, cw_firsts, cr_seconds, cw_seconds, cr_inputVariables, cw_inputVariables, cr_nameLengths, cw_nameLengths, cr_tallies, cw_tallies, cr_bytes, cw_bytes, cr_words, cw_words, cl_tallies, cr_names, cr_trueB, cr_falseB, cr_name, cw_name, cq_rc, cq_st, cq_size, cq_classes, cq_contradiction, cqp_size, cqp_classes, cqp_contradiction, cq_rd, cq_wr, cq_copy, cl_s_1, cl_s_2, cl_ar_1, cl_ar_2, cl_w_1, cl_w_2, c_ciFirst, c_ciSecond, f1, f2, c_taWord]
        refine hQ _ (fun j hj => ?_)
        rw [cs_wb_and, wa j hj, wb j hj, vv]
        unfold sp_bx
        rw [if_neg k1, if_pos k2]
      · rw [if_neg k2]
        simp (disch := first | exact ev_ok_i _ | exact ev_ok_r _ | exact ev_ok_n | omega | assumption | decide) only [e_Ta_wordOf_79, e_Ta_wordOf_80, e_Ta_wordOf_81, e_Ta_wordOf_84, e_Ta_wordOf_85, e_Ta_wordOf_88, e_Ta_wordOf_91, e_Ta_wordOf_92, e_Ta_wordOf_93, e_Ta_wordOf_96, e_Ta_wordOf_97, e_Ta_wordOf_100, e_Ta_wordOf_103, e_Ta_wordOf_104, e_Ta_wordOf_107, e_Ta_wordOf_108, ev_rm_n, ev_rm_i, ev_rm_r, ev_rm_l, ev_ok_n, ev_ok_i, ev_ok_r, Option.toList_some, Option.toList_none, List.cons_append, List.nil_append, true_and, and_true, true_or, or_true, reduceIte, Nat.reduceEqDiff, if_true, if_false, cg_Dp_rc, cg_Dp_text, cg_Dp_circuit, cg_Dp_reader, cg_Dp_current, cg_Dp_working, cg_Dp_saturator, cg_Dp_table, cg_Te_rc, cg_Te_bytes, cg_Te_length, cp_Te_length, cg_Ci_rc, cg_Ci_kinds, cg_Ci_firsts, cg_Ci_seconds, cg_Ci_inputVariables, cg_Ci_names, cg_Ci_nameLengths, cg_Ci_size, cp_Ci_size, cg_Ci_inputs, cp_Ci_inputs, cg_Re_rc, cg_Re_text, cg_Re_circuit, cg_Re_token, cp_Re_token, cg_Re_start, cp_Re_start, cg_Re_next, cp_Re_next, cg_Re_open, cp_Re_open, cg_Re_fault, cp_Re_fault, cg_Re_faultPlace, cp_Re_faultPlace, cg_Sa_rc, cg_Sa_circuit, cg_Sa_before, cg_Sa_trueBranches, cg_Sa_falseBranches, cg_Sa_tallies, cg_Sa_mostSteps, cp_Sa_mostSteps, cg_Sa_spent, cp_Sa_spent, cg_Ta_rc, cg_Ta_circuit, cg_Ta_words, cr_kinds, cw_kinds, cr_firsts, cw_firsts, cr_seconds, cw_seconds, cr_inputVariables, cw_inputVariables, cr_nameLengths, cw_nameLengths, cr_tallies, cw_tallies, cr_bytes, cw_bytes, cr_words, cw_words, cl_tallies, cr_names, cr_trueB, cr_falseB, cr_name, cw_name, cq_rc, cq_st, cq_size, cq_classes, cq_contradiction, cqp_size, cqp_classes, cqp_contradiction, cq_rd, cq_wr, cq_copy, cl_s_1, cl_s_2, cl_ar_1, cl_ar_2, cl_w_1, cl_w_2, c_ciFirst, c_ciSecond, f1, f2, c_taWord]
        refine hQ _ (fun j hj => ?_)
        rw [cs_wb_xor, cs_wb_xor, cs_wb_m1 hj, wa j hj, wb j hj, vv]
        unfold sp_bx
        rw [if_neg k1, if_neg k2, Bool.xor_true]
theorem c_fill_loop {b : Nat} (hX : cl_WX X B g) (hok : sp_cok c) (hb : b < 2 ^ 25) : ∀ (m v : Nat) (τ : cl_S), v + m = cN c → cl_cR τ c → cs_W c τ.2 b v → (∀ f, cs_W c f b (cN c) → Q none (cl_put B (τ.1, f) g)) → ev_R X (d + 2) m_Ta_fill 2 [some (.ref (B + 61)), some (.int (nI b)), some (.int (nI v))] [] (cl_put B τ g) Q := by
  have hn := hok.1.2.1
  intro m
  induction m with
  | zero =>
    intro v τ hv hc hW hQ
    have e : v = cN c := by omega
    subst e
    have hN : τ.1 3 6 = nI (cN c) := hc.1.1.1
    simp (disch := first | exact ev_ok_i _ | exact ev_ok_r _ | exact ev_ok_n | omega | assumption | decide) only [e_Ta_fill_2, e_Ta_fill_3, e_Ta_fill_4, e_Ta_fill_7, e_Ta_fill_10, e_Ta_fill_31, ev_rm_n, ev_rm_i, ev_rm_r, ev_rm_l, ev_ok_n, ev_ok_i, ev_ok_r, Option.toList_some, Option.toList_none, List.cons_append, List.nil_append, true_and, and_true, true_or, or_true, reduceIte, Nat.reduceEqDiff, if_true, if_false, cg_Dp_rc, cg_Dp_text, cg_Dp_circuit, cg_Dp_reader, cg_Dp_current, cg_Dp_working, cg_Dp_saturator, cg_Dp_table, cg_Te_rc, cg_Te_bytes, cg_Te_length, cp_Te_length, cg_Ci_rc, cg_Ci_kinds, cg_Ci_firsts, cg_Ci_seconds, cg_Ci_inputVariables, cg_Ci_names, cg_Ci_nameLengths, cg_Ci_size, cp_Ci_size, cg_Ci_inputs, cp_Ci_inputs, cg_Re_rc, cg_Re_text, cg_Re_circuit, cg_Re_token, cp_Re_token, cg_Re_start, cp_Re_start, cg_Re_next, cp_Re_next, cg_Re_open, cp_Re_open, cg_Re_fault, cp_Re_fault, cg_Re_faultPlace, cp_Re_faultPlace, cg_Sa_rc, cg_Sa_circuit, cg_Sa_before, cg_Sa_trueBranches, cg_Sa_falseBranches, cg_Sa_tallies, cg_Sa_mostSteps, cp_Sa_mostSteps, cg_Sa_spent, cp_Sa_spent, cg_Ta_rc, cg_Ta_circuit, cg_Ta_words, cr_kinds, cw_kinds, cr_firsts, cw_firsts, cr_seconds, cw_seconds, cr_inputVariables, cw_inputVariables, cr_nameLengths, cw_nameLengths, cr_tallies, cw_tallies, cr_bytes, cw_bytes, cr_words, cw_words, cl_tallies, cr_names, cr_trueB, cr_falseB, cr_name, cw_name, cq_rc, cq_st, cq_size, cq_classes, cq_contradiction, cqp_size, cqp_classes, cqp_contradiction, cq_rd, cq_wr, cq_copy, cl_s_1, cl_s_2, cl_ar_1, cl_ar_2, cl_w_1, cl_w_2, c_ciSize, hN, nI_leI, Nat.le_refl]
    exact hQ τ.2 hW
  | succ m ih =>
    intro v τ hv hc hW hQ
    have hN : τ.1 3 6 = nI (cN c) := hc.1.1.1
    have hlt : ¬ cN c ≤ v := by omega
    simp (disch := first | exact ev_ok_i _ | exact ev_ok_r _ | exact ev_ok_n | omega | assumption | decide) only [e_Ta_fill_2, e_Ta_fill_3, e_Ta_fill_4, e_Ta_fill_7, e_Ta_fill_10, e_Ta_fill_13, e_Ta_fill_14, e_Ta_fill_17, e_Ta_fill_18, e_Ta_fill_19, e_Ta_fill_20, ev_rm_n, ev_rm_i, ev_rm_r, ev_rm_l, ev_ok_n, ev_ok_i, ev_ok_r, Option.toList_some, Option.toList_none, List.cons_append, List.nil_append, true_and, and_true, true_or, or_true, reduceIte, Nat.reduceEqDiff, if_true, if_false, cg_Dp_rc, cg_Dp_text, cg_Dp_circuit, cg_Dp_reader, cg_Dp_current, cg_Dp_working, cg_Dp_saturator, cg_Dp_table, cg_Te_rc, cg_Te_bytes, cg_Te_length, cp_Te_length, cg_Ci_rc, cg_Ci_kinds, cg_Ci_firsts, cg_Ci_seconds, cg_Ci_inputVariables, cg_Ci_names, cg_Ci_nameLengths, cg_Ci_size, cp_Ci_size, cg_Ci_inputs, cp_Ci_inputs, cg_Re_rc, cg_Re_text, cg_Re_circuit, cg_Re_token, cp_Re_token, cg_Re_start, cp_Re_start, cg_Re_next, cp_Re_next, cg_Re_open, cp_Re_open, cg_Re_fault, cp_Re_fault, cg_Re_faultPlace, cp_Re_faultPlace, cg_Sa_rc, cg_Sa_circuit, cg_Sa_before, cg_Sa_trueBranches, cg_Sa_falseBranches, cg_Sa_tallies, cg_Sa_mostSteps, cp_Sa_mostSteps, cg_Sa_spent, cp_Sa_spent, cg_Ta_rc, cg_Ta_circuit, cg_Ta_words, cr_kinds, cw_kinds, cr_firsts, cw_firsts, cr_seconds, cw_seconds, cr_inputVariables, cw_inputVariables, cr_nameLengths, cw_nameLengths, cr_tallies, cw_tallies, cr_bytes, cw_bytes, cr_words, cw_words, cl_tallies, cr_names, cr_trueB, cr_falseB, cr_name, cw_name, cq_rc, cq_st, cq_size, cq_classes, cq_contradiction, cqp_size, cqp_classes, cqp_contradiction, cq_rd, cq_wr, cq_copy, cl_s_1, cl_s_2, cl_ar_1, cl_ar_2, cl_w_1, cl_w_2, c_ciSize, hN, nI_leI, hlt]
    rw [e_Ta_fill_21]
    simp (disch := first | exact ev_ok_i _ | exact ev_ok_r _ | exact ev_ok_n | omega | assumption | decide) only [ev_rm_n, ev_rm_i, ev_rm_r, ev_rm_l, ev_ok_n, ev_ok_i, ev_ok_r, Option.toList_some, Option.toList_none, List.cons_append, List.nil_append, true_and, and_true, true_or, or_true, reduceIte, Nat.reduceEqDiff, if_true, if_false, cg_Dp_rc, cg_Dp_text, cg_Dp_circuit, cg_Dp_reader, cg_Dp_current, cg_Dp_working, cg_Dp_saturator, cg_Dp_table, cg_Te_rc, cg_Te_bytes, cg_Te_length, cp_Te_length, cg_Ci_rc, cg_Ci_kinds, cg_Ci_firsts, cg_Ci_seconds, cg_Ci_inputVariables, cg_Ci_names, cg_Ci_nameLengths, cg_Ci_size, cp_Ci_size, cg_Ci_inputs, cp_Ci_inputs, cg_Re_rc, cg_Re_text, cg_Re_circuit, cg_Re_token, cp_Re_token, cg_Re_start, cp_Re_start, cg_Re_next, cp_Re_next, cg_Re_open, cp_Re_open, cg_Re_fault, cp_Re_fault, cg_Re_faultPlace, cp_Re_faultPlace, cg_Sa_rc, cg_Sa_circuit, cg_Sa_before, cg_Sa_trueBranches, cg_Sa_falseBranches, cg_Sa_tallies, cg_Sa_mostSteps, cp_Sa_mostSteps, cg_Sa_spent, cp_Sa_spent, cg_Ta_rc, cg_Ta_circuit, cg_Ta_words, cr_kinds, cw_kinds, cr_firsts, cw_firsts, cr_seconds, cw_seconds, cr_inputVariables, cw_inputVariables, cr_nameLengths, cw_nameLengths, cr_tallies, cw_tallies, cr_bytes, cw_bytes, cr_words, cw_words, cl_tallies, cr_names, cr_trueB, cr_falseB, cr_name, cw_name, cq_rc, cq_st, cq_size, cq_classes, cq_contradiction, cqp_size, cqp_classes, cqp_contradiction, cq_rd, cq_wr, cq_copy, cl_s_1, cl_s_2, cl_ar_1, cl_ar_2, cl_w_1, cl_w_2]
    refine c_taWordOf hX hc hok (by omega) hb hW (fun x hx => ?_)
    simp (disch := first | exact ev_ok_i _ | exact ev_ok_r _ | exact ev_ok_n | omega | assumption | decide) only [e_Ta_fill_24, e_Ta_fill_25, e_Ta_fill_28, ev_rm_n, ev_rm_i, ev_rm_r, ev_rm_l, ev_ok_n, ev_ok_i, ev_ok_r, Option.toList_some, Option.toList_none, List.cons_append, List.nil_append, true_and, and_true, true_or, or_true, reduceIte, Nat.reduceEqDiff, if_true, if_false, cg_Dp_rc, cg_Dp_text, cg_Dp_circuit, cg_Dp_reader, cg_Dp_current, cg_Dp_working, cg_Dp_saturator, cg_Dp_table, cg_Te_rc, cg_Te_bytes, cg_Te_length, cp_Te_length, cg_Ci_rc, cg_Ci_kinds, cg_Ci_firsts, cg_Ci_seconds, cg_Ci_inputVariables, cg_Ci_names, cg_Ci_nameLengths, cg_Ci_size, cp_Ci_size, cg_Ci_inputs, cp_Ci_inputs, cg_Re_rc, cg_Re_text, cg_Re_circuit, cg_Re_token, cp_Re_token, cg_Re_start, cp_Re_start, cg_Re_next, cp_Re_next, cg_Re_open, cp_Re_open, cg_Re_fault, cp_Re_fault, cg_Re_faultPlace, cp_Re_faultPlace, cg_Sa_rc, cg_Sa_circuit, cg_Sa_before, cg_Sa_trueBranches, cg_Sa_falseBranches, cg_Sa_tallies, cg_Sa_mostSteps, cp_Sa_mostSteps, cg_Sa_spent, cp_Sa_spent, cg_Ta_rc, cg_Ta_circuit, cg_Ta_words, cr_kinds, cw_kinds, cr_firsts, cw_firsts, cr_seconds, cw_seconds, cr_inputVariables, cw_inputVariables, cr_nameLengths, cw_nameLengths, cr_tallies, cw_tallies, cr_bytes, cw_bytes, cr_words, cw_words, cl_tallies, cr_names, cr_trueB, cr_falseB, cr_name, cw_name, cq_rc, cq_st, cq_size, cq_classes, cq_contradiction, cqp_size, cqp_classes, cqp_contradiction, cq_rd, cq_wr, cq_copy, cl_s_1, cl_s_2, cl_ar_1, cl_ar_2, cl_w_1, cl_w_2, xo_in, nI_clamp, nI_1]
    refine ih (v + 1) _ (by omega) hc (fun u hu j hj => ?_) hQ
    show cs_wb (vp_updL τ.2 v x u) j = _
    by_cases e : u = v
    · rw [e, show vp_updL τ.2 v x v = x by simp [vp_updL]]
      exact hx j hj
    · rw [show vp_updL τ.2 v x u = τ.2 u by simp [vp_updL, e]]
      exact hW u (by omega) j hj
theorem c_fill {b : Nat} (hX : cl_WX X B g) (hc : cl_cR τ c) (hok : sp_cok c) (hb : b < 2 ^ 25) (hQ : ∀ f, cs_W c f b (cN c) → Q none (cl_put B (τ.1, f) g)) : ev_C X (d + 2) m_Ta_fill [.ref (B + 61), .int (nI b)] (cl_put B τ g) Q := by
  show ev_R X (d + 2) m_Ta_fill 0 [some (.ref (B + 61)), some (.int (nI b)), none] [] (cl_put B τ g) Q
  have e0 : (0 : Int32) = nI 0 := rfl
  simp (disch := first | exact ev_ok_i _ | exact ev_ok_r _ | exact ev_ok_n | omega | assumption | decide) only [e_Ta_fill_0, e_Ta_fill_1, ev_rm_n, ev_rm_i, ev_rm_r, ev_rm_l, ev_ok_n, ev_ok_i, ev_ok_r, Option.toList_some, Option.toList_none, List.cons_append, List.nil_append, true_and, and_true, true_or, or_true, reduceIte, Nat.reduceEqDiff, if_true, if_false]
  rw [e0]
  exact c_fill_loop hX hok hb (cN c) 0 τ (by omega) hc (fun u hu => absurd hu (Nat.not_lt_zero u)) hQ
end TA1
