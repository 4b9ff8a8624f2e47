/-! THE CLASS's names -/
theorem sp_we_ld (x : sp_X) : ∀ (m p k : Nat), p ≤ k → k < sp_we x m p → sp_small (x.1 k) ∨ sp_digit (x.1 k) := by
  intro m
  induction m with
  | zero => intro p k h1 h2; unfold sp_we at h2; omega
  | succ m ih =>
    intro p k h1 h2
    unfold sp_we at h2
    by_cases c : sp_small (x.1 p) ∨ sp_digit (x.1 p)
    · rw [if_pos c] at h2
      by_cases e : k = p
      · rw [e]; exact c
      · exact ih (p + 1) k (by omega) h2
    · rw [if_neg c] at h2
      omega
theorem sp_tw_nm {x : sp_X} {s : Nat} (h : (sp_tw x s).1 = 257) (hs : s ≤ x.2) : ∀ k, k < (sp_tw x s).2 → s + k < x.2 ∧ (sp_small (x.1 (s + k)) ∨ sp_digit (x.1 (s + k))) := by
  intro k hk
  have hin := (sp_tw_sz hs).1
  refine ⟨by omega, ?_⟩
  by_cases c1 : s = x.2
  · have e : sp_tw x s = (256, 0) := by unfold sp_tw; rw [if_pos c1]
    rw [e] at hk; cases hk
  · by_cases c2 : sp_small (x.1 s)
    · have e : (sp_tw x s).2 = sp_we x (x.2 - s) s - s := by unfold sp_tw; rw [if_neg c1, if_pos c2]
      rw [e] at hk
      exact sp_we_ld x (x.2 - s) s (s + k) (by omega) (by omega)
    · exfalso
      have e : sp_tw x s = if x.1 s = 45 ∧ sp_sg x (s + 1) = 62 then (260, 2) else if x.1 s = 60 ∧ sp_sg x (s + 1) = 45 ∧ sp_sg x (s + 2) = 62 then (261, 3) else (if sp_sgn (x.1 s) then x.1 s else 262, 1) := by
        unfold sp_tw
        rw [if_neg c1, if_neg c2]
      rw [e] at h
      split at h
      · exact absurd h (by decide)
      · split at h
        · exact absurd h (by decide)
        · dsimp only at h
          split at h
          · rename_i hsg
            rcases hsg with z | z | z | z | z | z <;> rw [z] at h <;> exact absurd h (by decide)
          · exact absurd h (by decide)
theorem cs_bt_nm {x : sp_X} (hb : ∀ j, j < x.2 → cs_b (x.1 j)) {k : Nat} (hk : k < x.2) (h : sp_small (x.1 k) ∨ sp_digit (x.1 k)) : cs_bt x k = x.1 k := by
  unfold cs_bt
  rw [if_pos hk]
  obtain ⟨q, h1, h2, h3, h4⟩ := hb k hk
  by_cases hq : q < 128
  · rw [h2, h3 hq]
  · exfalso
    have h5 := h4 (by omega)
    have h48 : (48 : Int32) ≤ x.1 k := h.elim (fun z => Int32.le_trans (by decide) z.1) (fun z => z.1)
    exact absurd h5 (Int32.not_lt.mpr (Int32.le_trans (by decide : (0 : Int32) ≤ 48) h48))
section CR5
variable {X : xo_X} {d B : Nat} {τ : cl_S} {g : xo_G} {Q : Option Value → xo_G → Prop} {x : sp_X} {s : sp_P} {n0 : Nat}
theorem c_isNamed_loop {c : sp_C} {i st sz : Nat} (hc : cl_cR τ c) (hok : sp_cok c) (hx : cl_xR τ x) (hn : x.2 ≤ 3000) (hi : i < cI c) (hs : st + sz ≤ x.2) (hbt : ∀ k, k < sz → cs_bt x (st + k) = x.1 (st + k)) (hz : cS c i = sz) : ∀ (m k : Nat), k + m = sz → (ev_R X (d + 1) m_Ci_isNamed 16 [some (.ref (B + 3)), some (.int (nI i)), some (.ref (B + 1)), some (.int (nI st)), some (.int (nI sz)), some (.int (nI k))] [] (cl_put B τ g) Q ↔ Q (some (.int (zi (∀ j, j < sz → k ≤ j → cM c i j = x.1 (st + j))))) (cl_put B τ g)) := by
  have h6 := (hok.2.2.2 i hi).2
  have hi24 := hok.1.2.2
  intro m
  induction m with
  | zero =>
    intro k hk
    have e : k = sz := by omega
    subst e
    have hp : zi (∀ j, j < k → k ≤ j → cM c i j = x.1 (st + j)) = 1 := by
      unfold zi
      rw [if_pos (fun j h1 h2 => by omega)]
    rw [hp]
    simp (disch := first | exact ev_ok_i _ | exact ev_ok_r _ | exact ev_ok_n | omega | assumption | decide) only [e_Ci_isNamed_16, e_Ci_isNamed_18, e_Ci_isNamed_20, e_Ci_isNamed_51, e_Ci_isNamed_52, ev_rm_n, ev_rm_i, ev_rm_r, ev_rm_l, ev_ok_n, ev_ok_i, ev_ok_r, Option.toList_some, Option.toList_none, List.cons_append, List.nil_append, true_and, and_true, true_or, or_true, reduceIte, Nat.reduceEqDiff, if_true, if_false, nI_leI, Nat.le_refl]
  | succ m ih =>
    intro k hk
    have hlt : ¬ sz ≤ k := by omega
    have bt : ∀ (K : Option Value → xo_G → Prop), ev_C X d m_Te_byteAt [.ref (B + 1), .int (nI (st + k))] (cl_put B τ g) K ↔ K (some (.int (cs_bt x (st + k)))) (cl_put B τ g) := fun K => c_byteAt hx hn (by omega)
    have hm := (hc.2.2 i hi).2.2 k (by omega)
    have hb := hbt k (by omega)
    have hih := ih (k + 1) (by omega)
    conv => lhs; simp (disch := first | exact ev_ok_i _ | exact ev_ok_r _ | exact ev_ok_n | omega | assumption | decide) only [e_Ci_isNamed_16, e_Ci_isNamed_18, e_Ci_isNamed_20, e_Ci_isNamed_23, e_Ci_isNamed_24, e_Ci_isNamed_27, e_Ci_isNamed_28, e_Ci_isNamed_29, e_Ci_isNamed_31, e_Ci_isNamed_32, e_Ci_isNamed_33, e_Ci_isNamed_34, e_Ci_isNamed_36, e_Ci_isNamed_37, e_Ci_isNamed_40, e_Ci_isNamed_43, e_Ci_isNamed_44, e_Ci_isNamed_45, ev_rm_n, ev_rm_i, ev_rm_r, ev_rm_l, ev_ok_n, ev_ok_i, ev_ok_r, Option.toList_some, Option.toList_none, List.cons_append, List.nil_append, true_and, and_true, true_or, or_true, reduceIte, Nat.reduceEqDiff, if_true, if_false, cg_Dp_rc, cg_Dp_text, cg_Dp_circuit, cg_Dp_reader, cg_Dp_current, cg_Dp_working, cg_Dp_saturator, cg_Dp_table, cg_Te_rc, cg_Te_bytes, cg_Te_length, cp_Te_length, cg_Ci_rc, cg_Ci_kinds, cg_Ci_firsts, cg_Ci_seconds, cg_Ci_inputVariables, cg_Ci_names, cg_Ci_nameLengths, cg_Ci_size, cp_Ci_size, cg_Ci_inputs, cp_Ci_inputs, cg_Re_rc, cg_Re_text, cg_Re_circuit, cg_Re_token, cp_Re_token, cg_Re_start, cp_Re_start, cg_Re_next, cp_Re_next, cg_Re_open, cp_Re_open, cg_Re_fault, cp_Re_fault, cg_Re_faultPlace, cp_Re_faultPlace, cg_Sa_rc, cg_Sa_circuit, cg_Sa_before, cg_Sa_trueBranches, cg_Sa_falseBranches, cg_Sa_tallies, cg_Sa_mostSteps, cp_Sa_mostSteps, cg_Sa_spent, cp_Sa_spent, cg_Ta_rc, cg_Ta_circuit, cg_Ta_words, cr_kinds, cw_kinds, cr_firsts, cw_firsts, cr_seconds, cw_seconds, cr_inputVariables, cw_inputVariables, cr_nameLengths, cw_nameLengths, cr_tallies, cw_tallies, cr_bytes, cw_bytes, cr_words, cw_words, cl_tallies, cr_names, cr_trueB, cr_falseB, cr_name, cw_name, cq_rc, cq_st, cq_size, cq_classes, cq_contradiction, cqp_size, cqp_classes, cqp_contradiction, cq_rd, cq_wr, cq_copy, cl_s_1, cl_s_2, cl_ar_1, cl_ar_2, cl_w_1, cl_w_2, nI_leI, hlt, cr_names, cr_name, xo_in, nI_clamp, hm, nI_add, bt, hb, nI_1]
    by_cases z : cM c i k = x.1 (st + k)
    · simp only [z, if_true]
      rw [e_Ci_isNamed_48, hih]
      have e : (∀ j, j < sz → k + 1 ≤ j → cM c i j = x.1 (st + j)) ↔ (∀ j, j < sz → k ≤ j → cM c i j = x.1 (st + j)) := ⟨fun h j h1 h2 => by
        by_cases e : j = k
        · rw [e]; exact z
        · exact h j h1 (by omega), fun h j h1 h2 => h j h1 (by omega)⟩
      have e2 : zi (∀ j, j < sz → k + 1 ≤ j → cM c i j = x.1 (st + j)) = zi (∀ j, j < sz → k ≤ j → cM c i j = x.1 (st + j)) := by
        unfold zi
        by_cases w : ∀ j, j < sz → k ≤ j → cM c i j = x.1 (st + j)
        · rw [if_pos w, if_pos (e.mpr w)]
        · rw [if_neg w, if_neg (fun y => w (e.mp y))]
      rw [e2]
    · have hp : zi (∀ j, j < sz → k ≤ j → cM c i j = x.1 (st + j)) = 0 := by
        unfold zi
        rw [if_neg (fun h => z (h k (by omega) (Nat.le_refl k)))]
      rw [hp]
      simp only [z, if_false]
theorem c_isNamed {c : sp_C} {i st sz : Nat} (hc : cl_cR τ c) (hok : sp_cok c) (hx : cl_xR τ x) (hn : x.2 ≤ 3000) (hi : i < cI c) (hs : st + sz ≤ x.2) (hbt : ∀ k, k < sz → cs_bt x (st + k) = x.1 (st + k)) : ev_C X (d + 1) m_Ci_isNamed [.ref (B + 3), .int (nI i), .ref (B + 1), .int (nI st), .int (nI sz)] (cl_put B τ g) Q ↔ Q (some (.int (if sp_nq c x st sz i then 1 else 0))) (cl_put B τ g) := by
  show ev_R X (d + 1) m_Ci_isNamed 0 [some (.ref (B + 3)), some (.int (nI i)), some (.ref (B + 1)), some (.int (nI st)), some (.int (nI sz)), none] [] (cl_put B τ g) Q ↔ _
  have h6 := (hok.2.2.2 i hi).2
  have hi24 := hok.1.2.2
  have hl := (hc.2.2 i hi).2.1
  simp (disch := first | exact ev_ok_i _ | exact ev_ok_r _ | exact ev_ok_n | omega | assumption | decide) only [e_Ci_isNamed_0, e_Ci_isNamed_1, e_Ci_isNamed_4, e_Ci_isNamed_5, e_Ci_isNamed_6, e_Ci_isNamed_8, ev_rm_n, ev_rm_i, ev_rm_r, ev_rm_l, ev_ok_n, ev_ok_i, ev_ok_r, Option.toList_some, Option.toList_none, List.cons_append, List.nil_append, true_and, and_true, true_or, or_true, reduceIte, Nat.reduceEqDiff, if_true, if_false, cg_Dp_rc, cg_Dp_text, cg_Dp_circuit, cg_Dp_reader, cg_Dp_current, cg_Dp_working, cg_Dp_saturator, cg_Dp_table, cg_Te_rc, cg_Te_bytes, cg_Te_length, cp_Te_length, cg_Ci_rc, cg_Ci_kinds, cg_Ci_firsts, cg_Ci_seconds, cg_Ci_inputVariables, cg_Ci_names, cg_Ci_nameLengths, cg_Ci_size, cp_Ci_size, cg_Ci_inputs, cp_Ci_inputs, cg_Re_rc, cg_Re_text, cg_Re_circuit, cg_Re_token, cp_Re_token, cg_Re_start, cp_Re_start, cg_Re_next, cp_Re_next, cg_Re_open, cp_Re_open, cg_Re_fault, cp_Re_fault, cg_Re_faultPlace, cp_Re_faultPlace, cg_Sa_rc, cg_Sa_circuit, cg_Sa_before, cg_Sa_trueBranches, cg_Sa_falseBranches, cg_Sa_tallies, cg_Sa_mostSteps, cp_Sa_mostSteps, cg_Sa_spent, cp_Sa_spent, cg_Ta_rc, cg_Ta_circuit, cg_Ta_words, cr_kinds, cw_kinds, cr_firsts, cw_firsts, cr_seconds, cw_seconds, cr_inputVariables, cw_inputVariables, cr_nameLengths, cw_nameLengths, cr_tallies, cw_tallies, cr_bytes, cw_bytes, cr_words, cw_words, cl_tallies, cr_names, cr_trueB, cr_falseB, cr_name, cw_name, cq_rc, cq_st, cq_size, cq_classes, cq_contradiction, cqp_size, cqp_classes, cqp_contradiction, cq_rd, cq_wr, cq_copy, cl_s_1, cl_s_2, cl_ar_1, cl_ar_2, cl_w_1, cl_w_2, xo_in, nI_clamp, hl, nI_eq]
  by_cases z : cS c i = sz
  · have e0 : (0 : Int32) = nI 0 := rfl
    simp (disch := first | exact ev_ok_i _ | exact ev_ok_r _ | exact ev_ok_n | omega | assumption | decide) only [z, if_true, e_Ci_isNamed_13, e_Ci_isNamed_14, ev_rm_n, ev_rm_i, ev_rm_r, ev_rm_l, ev_ok_n, ev_ok_i, ev_ok_r, Option.toList_some, Option.toList_none, List.cons_append, List.nil_append, true_and, and_true, true_or, or_true, reduceIte, Nat.reduceEqDiff, if_true, if_false]
    rw [e0, c_isNamed_loop hc hok hx hn hi hs hbt z sz 0 (by omega)]
    unfold zi
    have e : (∀ j, j < sz → 0 ≤ j → cM c i j = x.1 (st + j)) ↔ sp_nq c x st sz i := ⟨fun h => ⟨z, fun k hk => h k hk (Nat.zero_le k)⟩, fun h j h1 _ => h.2 j h1⟩
    by_cases w : sp_nq c x st sz i
    · rw [if_pos w, if_pos (e.mpr w)]
    · rw [if_neg w, if_neg (fun y => w (e.mp y))]
      exact Iff.rfl
  · have hnq : ¬ sp_nq c x st sz i := fun w => z w.1
    simp (disch := first | exact ev_ok_i _ | exact ev_ok_r _ | exact ev_ok_n | omega | assumption | decide) only [z, if_false, e_Ci_isNamed_11, e_Ci_isNamed_12, ev_rm_n, ev_rm_i, ev_rm_r, ev_rm_l, ev_ok_n, ev_ok_i, ev_ok_r, Option.toList_some, Option.toList_none, List.cons_append, List.nil_append, true_and, and_true, true_or, or_true, reduceIte, Nat.reduceEqDiff, if_true, if_false]
    rw [if_neg hnq]
theorem c_inputOf_loop {c : sp_C} {st sz : Nat} (hc : cl_cR τ c) (hok : sp_cok c) (hx : cl_xR τ x) (hn : x.2 ≤ 3000) (hs : st + sz ≤ x.2) (hbt : ∀ k, k < sz → cs_bt x (st + k) = x.1 (st + k)) : ∀ (m i : Nat), i + m = cI c → (ev_R X (d + 2) m_Ci_inputOf 3 [some (.ref (B + 3)), some (.ref (B + 1)), some (.int (nI st)), some (.int (nI sz)), some (.int (nI i))] [] (cl_put B τ g) Q ↔ Q (some (.int (match sp_fd (fun i => decide (sp_nq c x st sz i)) i m with | some i => nI (2 * cV c i) | none => -1))) (cl_put B τ g)) := by
  have hi24 := hok.1.2.2
  intro m
  induction m with
  | zero =>
    intro i hi
    have e : i = cI c := by omega
    subst e
    simp (disch := first | exact ev_ok_i _ | exact ev_ok_r _ | exact ev_ok_n | omega | assumption | decide) only [e_Ci_inputOf_3, e_Ci_inputOf_5, e_Ci_inputOf_6, e_Ci_inputOf_9, e_Ci_inputOf_40, e_Ci_inputOf_41, ev_rm_n, ev_rm_i, ev_rm_r, ev_rm_l, ev_ok_n, ev_ok_i, ev_ok_r, Option.toList_some, Option.toList_none, List.cons_append, List.nil_append, true_and, and_true, true_or, or_true, reduceIte, Nat.reduceEqDiff, if_true, if_false, cg_Dp_rc, cg_Dp_text, cg_Dp_circuit, cg_Dp_reader, cg_Dp_current, cg_Dp_working, cg_Dp_saturator, cg_Dp_table, cg_Te_rc, cg_Te_bytes, cg_Te_length, cp_Te_length, cg_Ci_rc, cg_Ci_kinds, cg_Ci_firsts, cg_Ci_seconds, cg_Ci_inputVariables, cg_Ci_names, cg_Ci_nameLengths, cg_Ci_size, cp_Ci_size, cg_Ci_inputs, cp_Ci_inputs, cg_Re_rc, cg_Re_text, cg_Re_circuit, cg_Re_token, cp_Re_token, cg_Re_start, cp_Re_start, cg_Re_next, cp_Re_next, cg_Re_open, cp_Re_open, cg_Re_fault, cp_Re_fault, cg_Re_faultPlace, cp_Re_faultPlace, cg_Sa_rc, cg_Sa_circuit, cg_Sa_before, cg_Sa_trueBranches, cg_Sa_falseBranches, cg_Sa_tallies, cg_Sa_mostSteps, cp_Sa_mostSteps, cg_Sa_spent, cp_Sa_spent, cg_Ta_rc, cg_Ta_circuit, cg_Ta_words, cr_kinds, cw_kinds, cr_firsts, cw_firsts, cr_seconds, cw_seconds, cr_inputVariables, cw_inputVariables, cr_nameLengths, cw_nameLengths, cr_tallies, cw_tallies, cr_bytes, cw_bytes, cr_words, cw_words, cl_tallies, cr_names, cr_trueB, cr_falseB, cr_name, cw_name, cq_rc, cq_st, cq_size, cq_classes, cq_contradiction, cqp_size, cqp_classes, cqp_contradiction, cq_rd, cq_wr, cq_copy, cl_s_1, cl_s_2, cl_ar_1, cl_ar_2, cl_w_1, cl_w_2, hc.2.1, nI_leI, Nat.le_refl, sp_fd]
  | succ m ih =>
    intro i hi
    have hlt : ¬ cI c ≤ i := by omega
    have hnm : ∀ (K : Option Value → xo_G → Prop), ev_C X (d + 1) m_Ci_isNamed [.ref (B + 3), .int (nI i), .ref (B + 1), .int (nI st), .int (nI sz)] (cl_put B τ g) K ↔ K (some (.int (if sp_nq c x st sz i then 1 else 0))) (cl_put B τ g) := fun K => c_isNamed hc hok hx hn (by omega) hs hbt
    have hv := (hc.2.2 i (by omega)).1
    have hih := ih (i + 1) (by omega)
    have i10 : ¬ (1 : Int32) = 0 := by decide
    conv => lhs; simp (disch := first | exact ev_ok_i _ | exact ev_ok_r _ | exact ev_ok_n | omega | assumption | decide) only [e_Ci_inputOf_3, e_Ci_inputOf_5, e_Ci_inputOf_6, e_Ci_inputOf_9, e_Ci_inputOf_12, e_Ci_inputOf_13, e_Ci_inputOf_15, e_Ci_inputOf_16, e_Ci_inputOf_17, e_Ci_inputOf_18, ev_rm_n, ev_rm_i, ev_rm_r, ev_rm_l, ev_ok_n, ev_ok_i, ev_ok_r, Option.toList_some, Option.toList_none, List.cons_append, List.nil_append, true_and, and_true, true_or, or_true, reduceIte, Nat.reduceEqDiff, if_true, if_false, cg_Dp_rc, cg_Dp_text, cg_Dp_circuit, cg_Dp_reader, cg_Dp_current, cg_Dp_working, cg_Dp_saturator, cg_Dp_table, cg_Te_rc, cg_Te_bytes, cg_Te_length, cp_Te_length, cg_Ci_rc, cg_Ci_kinds, cg_Ci_firsts, cg_Ci_seconds, cg_Ci_inputVariables, cg_Ci_names, cg_Ci_nameLengths, cg_Ci_size, cp_Ci_size, cg_Ci_inputs, cp_Ci_inputs, cg_Re_rc, cg_Re_text, cg_Re_circuit, cg_Re_token, cp_Re_token, cg_Re_start, cp_Re_start, cg_Re_next, cp_Re_next, cg_Re_open, cp_Re_open, cg_Re_fault, cp_Re_fault, cg_Re_faultPlace, cp_Re_faultPlace, cg_Sa_rc, cg_Sa_circuit, cg_Sa_before, cg_Sa_trueBranches, cg_Sa_falseBranches, cg_Sa_tallies, cg_Sa_mostSteps, cp_Sa_mostSteps, cg_Sa_spent, cp_Sa_spent, cg_Ta_rc, cg_Ta_circuit, cg_Ta_words, cr_kinds, cw_kinds, cr_firsts, cw_firsts, cr_seconds, cw_seconds, cr_inputVariables, cw_inputVariables, cr_nameLengths, cw_nameLengths, cr_tallies, cw_tallies, cr_bytes, cw_bytes, cr_words, cw_words, cl_tallies, cr_names, cr_trueB, cr_falseB, cr_name, cw_name, cq_rc, cq_st, cq_size, cq_classes, cq_contradiction, cqp_size, cqp_classes, cqp_contradiction, cq_rd, cq_wr, cq_copy, cl_s_1, cl_s_2, cl_ar_1, cl_ar_2, cl_w_1, cl_w_2, hc.2.1, nI_leI, hlt, hnm]
    unfold sp_fd
    by_cases z : sp_nq c x st sz i
    · rw [if_pos z, if_pos (decide_eq_true z)]
      simp (disch := first | exact ev_ok_i _ | exact ev_ok_r _ | exact ev_ok_n | omega | assumption | decide) only [e_Ci_inputOf_21, e_Ci_inputOf_24, e_Ci_inputOf_25, e_Ci_inputOf_26, e_Ci_inputOf_29, e_Ci_inputOf_31, e_Ci_inputOf_32, e_Ci_inputOf_33, ev_rm_n, ev_rm_i, ev_rm_r, ev_rm_l, ev_ok_n, ev_ok_i, ev_ok_r, Option.toList_some, Option.toList_none, List.cons_append, List.nil_append, true_and, and_true, true_or, or_true, reduceIte, Nat.reduceEqDiff, if_true, if_false, cg_Dp_rc, cg_Dp_text, cg_Dp_circuit, cg_Dp_reader, cg_Dp_current, cg_Dp_working, cg_Dp_saturator, cg_Dp_table, cg_Te_rc, cg_Te_bytes, cg_Te_length, cp_Te_length, cg_Ci_rc, cg_Ci_kinds, cg_Ci_firsts, cg_Ci_seconds, cg_Ci_inputVariables, cg_Ci_names, cg_Ci_nameLengths, cg_Ci_size, cp_Ci_size, cg_Ci_inputs, cp_Ci_inputs, cg_Re_rc, cg_Re_text, cg_Re_circuit, cg_Re_token, cp_Re_token, cg_Re_start, cp_Re_start, cg_Re_next, cp_Re_next, cg_Re_open, cp_Re_open, cg_Re_fault, cp_Re_fault, cg_Re_faultPlace, cp_Re_faultPlace, cg_Sa_rc, cg_Sa_circuit, cg_Sa_before, cg_Sa_trueBranches, cg_Sa_falseBranches, cg_Sa_tallies, cg_Sa_mostSteps, cp_Sa_mostSteps, cg_Sa_spent, cp_Sa_spent, cg_Ta_rc, cg_Ta_circuit, cg_Ta_words, cr_kinds, cw_kinds, cr_firsts, cw_firsts, cr_seconds, cw_seconds, cr_inputVariables, cw_inputVariables, cr_nameLengths, cw_nameLengths, cr_tallies, cw_tallies, cr_bytes, cw_bytes, cr_words, cw_words, cl_tallies, cr_names, cr_trueB, cr_falseB, cr_name, cw_name, cq_rc, cq_st, cq_size, cq_classes, cq_contradiction, cqp_size, cqp_classes, cqp_contradiction, cq_rd, cq_wr, cq_copy, cl_s_1, cl_s_2, cl_ar_1, cl_ar_2, cl_w_1, cl_w_2, i10, if_false, xo_in, nI_clamp, hv, nL_2]
    · rw [if_neg z, if_neg (by simp only [decide_eq_true_eq]; exact z)]
      simp (disch := first | exact ev_ok_i _ | exact ev_ok_r _ | exact ev_ok_n | omega | assumption | decide) only [e_Ci_inputOf_21, e_Ci_inputOf_34, e_Ci_inputOf_37, ev_rm_n, ev_rm_i, ev_rm_r, ev_rm_l, ev_ok_n, ev_ok_i, ev_ok_r, Option.toList_some, Option.toList_none, List.cons_append, List.nil_append, true_and, and_true, true_or, or_true, reduceIte, Nat.reduceEqDiff, if_true, if_false, nI_1]
      exact hih
theorem c_inputOf {c : sp_C} {st sz : Nat} (hc : cl_cR τ c) (hok : sp_cok c) (hx : cl_xR τ x) (hn : x.2 ≤ 3000) (hs : st + sz ≤ x.2) (hbt : ∀ k, k < sz → cs_bt x (st + k) = x.1 (st + k)) : ev_C X (d + 2) m_Ci_inputOf [.ref (B + 3), .ref (B + 1), .int (nI st), .int (nI sz)] (cl_put B τ g) Q ↔ Q (some (.int (match sp_inp c x st sz with | some i => nI (2 * cV c i) | none => -1))) (cl_put B τ g) := by
  show ev_R X (d + 2) m_Ci_inputOf 0 [some (.ref (B + 3)), some (.ref (B + 1)), some (.int (nI st)), some (.int (nI sz)), none] [] (cl_put B τ g) Q ↔ _
  have e0 : (0 : Int32) = nI 0 := rfl
  simp (disch := first | exact ev_ok_i _ | exact ev_ok_r _ | exact ev_ok_n | omega | assumption | decide) only [e_Ci_inputOf_0, e_Ci_inputOf_1, ev_rm_n, ev_rm_i, ev_rm_r, ev_rm_l, ev_ok_n, ev_ok_i, ev_ok_r, Option.toList_some, Option.toList_none, List.cons_append, List.nil_append, true_and, and_true, true_or, or_true, reduceIte, Nat.reduceEqDiff, if_true, if_false]
  rw [e0, c_inputOf_loop hc hok hx hn hs hbt (cI c) 0 (by omega)]
  rfl
theorem c_addInput_loop {i st sz : Nat} (hi : i < 24) (hx : cl_xR τ x) (hn : x.2 ≤ 3000) (hs : st + sz ≤ x.2) (h6 : sz ≤ 6) (hbt : ∀ k, k < sz → cs_bt x (st + k) = x.1 (st + k)) : ∀ (m k : Nat), k + m = sz → (ev_R X (d + 1) m_Ci_addInput 9 [some (.ref (B + 3)), some (.ref (B + 1)), some (.int (nI st)), some (.int (nI sz)), some (.int (nI i)), some (.int (nI k))] [] (cl_put B (cl_ar τ (9 + i) (fun u => if u < k then x.1 (st + u) else τ.1 (9 + i) u)) g) Q ↔ ev_R X (d + 1) m_Ci_addInput 39 [some (.ref (B + 3)), some (.ref (B + 1)), some (.int (nI st)), some (.int (nI sz)), some (.int (nI i)), some (.int (nI sz))] [] (cl_put B (cl_ar τ (9 + i) (fun u => if u < sz then x.1 (st + u) else τ.1 (9 + i) u)) g) Q) := by
  intro m
  induction m with
  | zero =>
    intro k hk
    have e : k = sz := by omega
    subst e
    conv => lhs; simp (disch := first | exact ev_ok_i _ | exact ev_ok_r _ | exact ev_ok_n | omega | assumption | decide) only [e_Ci_addInput_9, e_Ci_addInput_11, e_Ci_addInput_12, ev_rm_n, ev_rm_i, ev_rm_r, ev_rm_l, ev_ok_n, ev_ok_i, ev_ok_r, Option.toList_some, Option.toList_none, List.cons_append, List.nil_append, true_and, and_true, true_or, or_true, reduceIte, Nat.reduceEqDiff, if_true, if_false, nI_leI, Nat.le_refl]
  | succ m ih =>
    intro k hk
    have hlt : ¬ sz ≤ k := by omega
    have hx2 : cl_xR (cl_ar τ (9 + i) (fun u => if u < k then x.1 (st + u) else τ.1 (9 + i) u)) x := cl_xR_ke (S := fun j => j = 9 + i) (cl_ke_ar τ _ rfl) (by omega) (by omega) hx
    have bt : ∀ (K : Option Value → xo_G → Prop), ev_C X d m_Te_byteAt [.ref (B + 1), .int (nI (st + k))] (cl_put B (cl_ar τ (9 + i) (fun u => if u < k then x.1 (st + u) else τ.1 (9 + i) u)) g) K ↔ K (some (.int (cs_bt x (st + k)))) (cl_put B (cl_ar τ (9 + i) (fun u => if u < k then x.1 (st + u) else τ.1 (9 + i) u)) g) := fun K => c_byteAt hx2 hn (by omega)
    have hb := hbt k (by omega)
    have hih := ih (k + 1) (by omega)
    conv => lhs; simp (disch := first | exact ev_ok_i _ | exact ev_ok_r _ | exact ev_ok_n | omega | assumption | decide) only [e_Ci_addInput_9, e_Ci_addInput_11, e_Ci_addInput_12, e_Ci_addInput_15, e_Ci_addInput_16, e_Ci_addInput_19, e_Ci_addInput_21, e_Ci_addInput_22, e_Ci_addInput_24, e_Ci_addInput_25, e_Ci_addInput_26, e_Ci_addInput_28, e_Ci_addInput_29, e_Ci_addInput_32, e_Ci_addInput_33, ev_rm_n, ev_rm_i, ev_rm_r, ev_rm_l, ev_ok_n, ev_ok_i, ev_ok_r, Option.toList_some, Option.toList_none, List.cons_append, List.nil_append, true_and, and_true, true_or, or_true, reduceIte, Nat.reduceEqDiff, if_true, if_false, cg_Dp_rc, cg_Dp_text, cg_Dp_circuit, cg_Dp_reader, cg_Dp_current, cg_Dp_working, cg_Dp_saturator, cg_Dp_table, cg_Te_rc, cg_Te_bytes, cg_Te_length, cp_Te_length, cg_Ci_rc, cg_Ci_kinds, cg_Ci_firsts, cg_Ci_seconds, cg_Ci_inputVariables, cg_Ci_names, cg_Ci_nameLengths, cg_Ci_size, cp_Ci_size, cg_Ci_inputs, cp_Ci_inputs, cg_Re_rc, cg_Re_text, cg_Re_circuit, cg_Re_token, cp_Re_token, cg_Re_start, cp_Re_start, cg_Re_next, cp_Re_next, cg_Re_open, cp_Re_open, cg_Re_fault, cp_Re_fault, cg_Re_faultPlace, cp_Re_faultPlace, cg_Sa_rc, cg_Sa_circuit, cg_Sa_before, cg_Sa_trueBranches, cg_Sa_falseBranches, cg_Sa_tallies, cg_Sa_mostSteps, cp_Sa_mostSteps, cg_Sa_spent, cp_Sa_spent, cg_Ta_rc, cg_Ta_circuit, cg_Ta_words, cr_kinds, cw_kinds, cr_firsts, cw_firsts, cr_seconds, cw_seconds, cr_inputVariables, cw_inputVariables, cr_nameLengths, cw_nameLengths, cr_tallies, cw_tallies, cr_bytes, cw_bytes, cr_words, cw_words, cl_tallies, cr_names, cr_trueB, cr_falseB, cr_name, cw_name, cq_rc, cq_st, cq_size, cq_classes, cq_contradiction, cqp_size, cqp_classes, cqp_contradiction, cq_rd, cq_wr, cq_copy, cl_s_1, cl_s_2, cl_ar_1, cl_ar_2, cl_w_1, cl_w_2, nI_leI, hlt, cr_names, cw_name, xo_in, nI_clamp, nI_add, bt, hb, nI_1, cl_s_ar]
    rw [e_Ci_addInput_36, ← hih]
    have ef : upd (fun u => if u < k then x.1 (st + u) else τ.1 (9 + i) u) k (x.1 (st + k)) = (fun u => if u < k + 1 then x.1 (st + u) else τ.1 (9 + i) u) := by
      funext u
      rw [upd_a]
      by_cases e : u = k
      · subst e
        rw [if_pos rfl, if_pos (by omega)]
      · rw [if_neg e]
        by_cases e2 : u < k
        · rw [if_pos e2, if_pos (by omega)]
        · rw [if_neg e2, if_neg (by omega)]
    rw [ef]
theorem c_addInput {c : sp_C} {st sz : Nat} (hc : cl_cR τ c) (hok : sp_cok c) (hx : cl_xR τ x) (hn : x.2 ≤ 3000) (hs : st + sz ≤ x.2) (h6 : sz ≤ 6) (hbt : ∀ k, k < sz → cs_bt x (st + k) = x.1 (st + k)) (hi : cI c < 24) (hN : cN c < 120) (hQ : ∀ τ2, cl_cR τ2 (sp_ai c x st sz) → cl_ke cl_JC τ τ2 → Q (some (.int (nI (2 * cN c)))) (cl_put B τ2 g)) : ev_C X (d + 1) m_Ci_addInput [.ref (B + 3), .ref (B + 1), .int (nI st), .int (nI sz)] (cl_put B τ g) Q := by
  show ev_R X (d + 1) m_Ci_addInput 0 [some (.ref (B + 3)), some (.ref (B + 1)), some (.int (nI st)), some (.int (nI sz)), none, none] [] (cl_put B τ g) Q
  have e0 : (0 : Int32) = nI 0 := rfl
  have e1 : (1 : Int32) = nI 1 := rfl
  obtain ⟨⟨⟨q0, q1, q2⟩, q3⟩, q4, q5⟩ := hc
  simp (disch := first | exact ev_ok_i _ | exact ev_ok_r _ | exact ev_ok_n | omega | assumption | decide) only [e_Ci_addInput_0, e_Ci_addInput_1, e_Ci_addInput_4, e_Ci_addInput_6, e_Ci_addInput_7, ev_rm_n, ev_rm_i, ev_rm_r, ev_rm_l, ev_ok_n, ev_ok_i, ev_ok_r, Option.toList_some, Option.toList_none, List.cons_append, List.nil_append, true_and, and_true, true_or, or_true, reduceIte, Nat.reduceEqDiff, if_true, if_false, cg_Dp_rc, cg_Dp_text, cg_Dp_circuit, cg_Dp_reader, cg_Dp_current, cg_Dp_working, cg_Dp_saturator, cg_Dp_table, cg_Te_rc, cg_Te_bytes, cg_Te_length, cp_Te_length, cg_Ci_rc, cg_Ci_kinds, cg_Ci_firsts, cg_Ci_seconds, cg_Ci_inputVariables, cg_Ci_names, cg_Ci_nameLengths, cg_Ci_size, cp_Ci_size, cg_Ci_inputs, cp_Ci_inputs, cg_Re_rc, cg_Re_text, cg_Re_circuit, cg_Re_token, cp_Re_token, cg_Re_start, cp_Re_start, cg_Re_next, cp_Re_next, cg_Re_open, cp_Re_open, cg_Re_fault, cp_Re_fault, cg_Re_faultPlace, cp_Re_faultPlace, cg_Sa_rc, cg_Sa_circuit, cg_Sa_before, cg_Sa_trueBranches, cg_Sa_falseBranches, cg_Sa_tallies, cg_Sa_mostSteps, cp_Sa_mostSteps, cg_Sa_spent, cp_Sa_spent, cg_Ta_rc, cg_Ta_circuit, cg_Ta_words, cr_kinds, cw_kinds, cr_firsts, cw_firsts, cr_seconds, cw_seconds, cr_inputVariables, cw_inputVariables, cr_nameLengths, cw_nameLengths, cr_tallies, cw_tallies, cr_bytes, cw_bytes, cr_words, cw_words, cl_tallies, cr_names, cr_trueB, cr_falseB, cr_name, cw_name, cq_rc, cq_st, cq_size, cq_classes, cq_contradiction, cqp_size, cqp_classes, cqp_contradiction, cq_rd, cq_wr, cq_copy, cl_s_1, cl_s_2, cl_ar_1, cl_ar_2, cl_w_1, cl_w_2, q4]
  have hl := c_addInput_loop (X := X) (d := d) (B := B) (g := g) (Q := Q) hi hx hn hs h6 hbt sz 0 (by omega)
  have ef : (fun u => if u < 0 then x.1 (st + u) else τ.1 (9 + cI c) u) = τ.1 (9 + cI c) := by
    funext u
    rw [if_neg (by omega)]
  rw [ef, cl_ar_eq] at hl
  rw [e0, hl]
  have n3 : ¬ (3 : Nat) = 9 + cI c := by omega
  generalize hf : (fun u => if u < sz then x.1 (st + u) else τ.1 (9 + cI c) u) = f
  have hsz : (cl_s (cl_s (cl_s (cl_ar τ (9 + cI c) f) 33 (cI c) (nI sz)) 7 (cI c) (nI (cN c))) 3 7 (nI (cI c + 1))).1 3 6 = nI (cN c) := by
    simp only [cl_s_1, cl_ar_1, if_true, upd_a, Nat.reduceEqDiff, if_false, n3]
    exact q0
  simp (disch := first | exact ev_ok_i _ | exact ev_ok_r _ | exact ev_ok_n | omega | assumption | decide) only [e_Ci_addInput_39, e_Ci_addInput_40, e_Ci_addInput_43, e_Ci_addInput_45, e_Ci_addInput_46, e_Ci_addInput_47, e_Ci_addInput_48, e_Ci_addInput_51, e_Ci_addInput_53, e_Ci_addInput_54, e_Ci_addInput_57, e_Ci_addInput_58, e_Ci_addInput_59, e_Ci_addInput_60, e_Ci_addInput_63, e_Ci_addInput_64, e_Ci_addInput_65, e_Ci_addInput_68, e_Ci_addInput_69, e_Ci_addInput_70, e_Ci_addInput_72, ev_rm_n, ev_rm_i, ev_rm_r, ev_rm_l, ev_ok_n, ev_ok_i, ev_ok_r, Option.toList_some, Option.toList_none, List.cons_append, List.nil_append, true_and, and_true, true_or, or_true, reduceIte, Nat.reduceEqDiff, if_true, if_false, cg_Dp_rc, cg_Dp_text, cg_Dp_circuit, cg_Dp_reader, cg_Dp_current, cg_Dp_working, cg_Dp_saturator, cg_Dp_table, cg_Te_rc, cg_Te_bytes, cg_Te_length, cp_Te_length, cg_Ci_rc, cg_Ci_kinds, cg_Ci_firsts, cg_Ci_seconds, cg_Ci_inputVariables, cg_Ci_names, cg_Ci_nameLengths, cg_Ci_size, cp_Ci_size, cg_Ci_inputs, cp_Ci_inputs, cg_Re_rc, cg_Re_text, cg_Re_circuit, cg_Re_token, cp_Re_token, cg_Re_start, cp_Re_start, cg_Re_next, cp_Re_next, cg_Re_open, cp_Re_open, cg_Re_fault, cp_Re_fault, cg_Re_faultPlace, cp_Re_faultPlace, cg_Sa_rc, cg_Sa_circuit, cg_Sa_before, cg_Sa_trueBranches, cg_Sa_falseBranches, cg_Sa_tallies, cg_Sa_mostSteps, cp_Sa_mostSteps, cg_Sa_spent, cp_Sa_spent, cg_Ta_rc, cg_Ta_circuit, cg_Ta_words, cr_kinds, cw_kinds, cr_firsts, cw_firsts, cr_seconds, cw_seconds, cr_inputVariables, cw_inputVariables, cr_nameLengths, cw_nameLengths, cr_tallies, cw_tallies, cr_bytes, cw_bytes, cr_words, cw_words, cl_tallies, cr_names, cr_trueB, cr_falseB, cr_name, cw_name, cq_rc, cq_st, cq_size, cq_classes, cq_contradiction, cqp_size, cqp_classes, cqp_contradiction, cq_rd, cq_wr, cq_copy, cl_s_1, cl_s_2, cl_ar_1, cl_ar_2, cl_w_1, cl_w_2, xo_in, nI_clamp, q0, q4, nI_1, n3, Nat.reduceEqDiff]
  rw [e_Ci_addInput_73]
  simp (disch := first | exact ev_ok_i _ | exact ev_ok_r _ | exact ev_ok_n | omega | assumption | decide) only [ev_rm_n, ev_rm_i, ev_rm_r, ev_rm_l, ev_ok_n, ev_ok_i, ev_ok_r, Option.toList_some, Option.toList_none, List.cons_append, List.nil_append, true_and, and_true, true_or, or_true, reduceIte, Nat.reduceEqDiff, if_true, if_false, cg_Dp_rc, cg_Dp_text, cg_Dp_circuit, cg_Dp_reader, cg_Dp_current, cg_Dp_working, cg_Dp_saturator, cg_Dp_table, cg_Te_rc, cg_Te_bytes, cg_Te_length, cp_Te_length, cg_Ci_rc, cg_Ci_kinds, cg_Ci_firsts, cg_Ci_seconds, cg_Ci_inputVariables, cg_Ci_names, cg_Ci_nameLengths, cg_Ci_size, cp_Ci_size, cg_Ci_inputs, cp_Ci_inputs, cg_Re_rc, cg_Re_text, cg_Re_circuit, cg_Re_token, cp_Re_token, cg_Re_start, cp_Re_start, cg_Re_next, cp_Re_next, cg_Re_open, cp_Re_open, cg_Re_fault, cp_Re_fault, cg_Re_faultPlace, cp_Re_faultPlace, cg_Sa_rc, cg_Sa_circuit, cg_Sa_before, cg_Sa_trueBranches, cg_Sa_falseBranches, cg_Sa_tallies, cg_Sa_mostSteps, cp_Sa_mostSteps, cg_Sa_spent, cp_Sa_spent, cg_Ta_rc, cg_Ta_circuit, cg_Ta_words, cr_kinds, cw_kinds, cr_firsts, cw_firsts, cr_seconds, cw_seconds, cr_inputVariables, cw_inputVariables, cr_nameLengths, cw_nameLengths, cr_tallies, cw_tallies, cr_bytes, cw_bytes, cr_words, cw_words, cl_tallies, cr_names, cr_trueB, cr_falseB, cr_name, cw_name, cq_rc, cq_st, cq_size, cq_classes, cq_contradiction, cqp_size, cqp_classes, cqp_contradiction, cq_rd, cq_wr, cq_copy, cl_s_1, cl_s_2, cl_ar_1, cl_ar_2, cl_w_1, cl_w_2]
  rw [c_ciAdd hsz hN]
  simp (disch := first | exact ev_ok_i _ | exact ev_ok_r _ | exact ev_ok_n | omega | assumption | decide) only [e_Ci_addInput_76, ev_rm_n, ev_rm_i, ev_rm_r, ev_rm_l, ev_ok_n, ev_ok_i, ev_ok_r, Option.toList_some, Option.toList_none, List.cons_append, List.nil_append, true_and, and_true, true_or, or_true, reduceIte, Nat.reduceEqDiff, if_true, if_false]
  refine hQ _ ?_ (cl_ke_tr (cl_ke_tr (cl_ke_tr (cl_ke_tr (cl_ke_ar τ _ ⟨by omega, by omega⟩) (cl_ke_s _ _ _ (by decide))) (cl_ke_s _ _ _ (by decide))) (cl_ke_s _ _ _ (by decide))) (cl_nv_ke _ _ _ _ _))
  refine ⟨⟨⟨?_, by show 1 ≤ cN c + 1; omega, by show cN c + 1 ≤ 120; omega⟩, fun v hv => ?_⟩, ?_, fun k hk => ?_⟩
  · unfold cl_nv
    simp only [cl_s_1, if_true, upd_a]
    rfl
  · have hv' : v < cN c + 1 := hv
    unfold cl_nv
    simp only [cl_s_1, cl_ar_1, upd_a, Nat.reduceEqDiff, if_false, if_true, show ¬ (4 : Nat) = 9 + cI c by omega, show ¬ (5 : Nat) = 9 + cI c by omega, show ¬ (6 : Nat) = 9 + cI c by omega]
    show _ = nI (va_up (cK c) (cN c) 1 v) ∧ _ = nI (va_up (cA c) (cN c) (cI c) v) ∧ _ = nI (va_up (cB c) (cN c) 0 v) ∧ va_up (cK c) (cN c) 1 v < _ ∧ va_up (cA c) (cN c) (cI c) v < _ ∧ va_up (cB c) (cN c) 0 v < _
    unfold va_up
    by_cases e : v = cN c
    · simp only [e, if_true]
      exact ⟨by trivial, by trivial, by trivial, by decide, by omega, by decide⟩
    · simp only [e, if_false]
      exact q3 v (by omega)
  · unfold cl_nv
    simp only [cl_s_1, if_true, upd_a, Nat.reduceEqDiff, if_false]
    rfl
  · have hk' : k < cI c + 1 := hk
    unfold cl_nv
    simp only [cl_s_1, cl_ar_1, upd_a, Nat.reduceEqDiff, if_false, if_true, show ¬ (7 : Nat) = 9 + cI c by omega, show ¬ (33 : Nat) = 9 + cI c by omega, show ¬ 9 + k = 3 by omega, show ¬ 9 + k = 4 by omega, show ¬ 9 + k = 5 by omega, show ¬ 9 + k = 6 by omega, show ¬ 9 + k = 7 by omega, show ¬ 9 + k = 33 by omega]
    show _ = nI (va_up (cV c) (cI c) (cN c) k) ∧ _ = nI (va_up (cS c) (cI c) sz k) ∧ ∀ m, m < va_up (cS c) (cI c) sz k → _ = va_up (cM c) (cI c) (fun k => x.1 (st + k)) k m
    unfold va_up
    by_cases e : k = cI c
    · simp only [e, if_true]
      refine ⟨by trivial, by trivial, fun m hm => ?_⟩
      rw [← hf]
      dsimp only
      rw [if_pos hm]
    · have e2 : ¬ 9 + k = 9 + cI c := by omega
      simp only [e, e2, if_false]
      exact q5 k (by omega)
theorem c_reName (hP : cl_P τ x s) (hL : cl_L τ x s) (hok : sp_pok x n0 s) (h0 : pF s = 0) (hk : tK x s = 257) (hQ : ∀ τ2 u, cl_P τ2 x (sp_pass x (sp_name x s).2) → (pF (sp_name x s).2 = 0 → u = nI (sp_name x s).1) → cl_ke cl_JR τ τ2 → Q (some (.int u)) (cl_put B τ2 g)) : ev_C X (d + 3) m_Re_name [.ref (B + 34)] (cl_put B τ g) Q := by
  show ev_R X (d + 3) m_Re_name 0 [some (.ref (B + 34)), none, none, none] [] (cl_put B τ g) Q
  have hi24 := hok.1.1.2.2
  have hn120 := hok.1.1.2.1
  have hx3 := hok.2.2.2.2
  have tsl := sp_ts_le hok.2.2.1
  have hz6 : tZ x s ≤ 6 := sp_tw_257 hk
  have hin : tS x s + tZ x s ≤ x.2 := (sp_tw_sz tsl.2).1
  have nm := sp_tw_nm hk tsl.2
  have hbt : ∀ k, k < tZ x s → cs_bt x (tS x s + k) = x.1 (tS x s + k) := fun k hkk => cs_bt_nm hP.1.2.2.2 (nm k hkk).1 (nm k hkk).2
  have sub : nI (tS x s + tZ x s) - nI (tS x s) = nI (tZ x s) := by
    rw [nL_sub (by omega)]
    congr 1
    omega
  have hT := cl_P_take hi24 hP hL h0
  have kT : cl_ke cl_J4 τ (cl_s τ 34 2 0) := cl_ke_s τ 2 0 rfl
  have h6' : τ.1 34 6 = 0 := by rw [hP.2.1, h0]; rfl
  have io : ∀ (K : Option Value → xo_G → Prop), ev_C X (d + 2) m_Ci_inputOf [.ref (B + 3), .ref (B + 1), .int (nI (tS x s)), .int (nI (tZ x s))] (cl_put B (cl_s τ 34 2 0) g) K ↔ K (some (.int (match sp_inp (pC s) x (tS x s) (tZ x s) with | some i => nI (2 * cV (pC s) i) | none => -1))) (cl_put B (cl_s τ 34 2 0) g) := fun K => c_inputOf (d := d) hT.1.1 hok.1 hT.1.2 hx3 hin hbt
  simp (disch := first | exact ev_ok_i _ | exact ev_ok_r _ | exact ev_ok_n | omega | assumption | decide) only [e_Re_name_0, e_Re_name_1, e_Re_name_4, e_Re_name_5, e_Re_name_8, e_Re_name_9, e_Re_name_10, e_Re_name_11, e_Re_name_14, e_Re_name_15, e_Re_name_16, e_Re_name_19, e_Re_name_20, e_Re_name_23, e_Re_name_24, e_Re_name_25, e_Re_name_28, ev_rm_n, ev_rm_i, ev_rm_r, ev_rm_l, ev_ok_n, ev_ok_i, ev_ok_r, Option.toList_some, Option.toList_none, List.cons_append, List.nil_append, true_and, and_true, true_or, or_true, reduceIte, Nat.reduceEqDiff, if_true, if_false, cg_Dp_rc, cg_Dp_text, cg_Dp_circuit, cg_Dp_reader, cg_Dp_current, cg_Dp_working, cg_Dp_saturator, cg_Dp_table, cg_Te_rc, cg_Te_bytes, cg_Te_length, cp_Te_length, cg_Ci_rc, cg_Ci_kinds, cg_Ci_firsts, cg_Ci_seconds, cg_Ci_inputVariables, cg_Ci_names, cg_Ci_nameLengths, cg_Ci_size, cp_Ci_size, cg_Ci_inputs, cp_Ci_inputs, cg_Re_rc, cg_Re_text, cg_Re_circuit, cg_Re_token, cp_Re_token, cg_Re_start, cp_Re_start, cg_Re_next, cp_Re_next, cg_Re_open, cp_Re_open, cg_Re_fault, cp_Re_fault, cg_Re_faultPlace, cp_Re_faultPlace, cg_Sa_rc, cg_Sa_circuit, cg_Sa_before, cg_Sa_trueBranches, cg_Sa_falseBranches, cg_Sa_tallies, cg_Sa_mostSteps, cp_Sa_mostSteps, cg_Sa_spent, cp_Sa_spent, cg_Ta_rc, cg_Ta_circuit, cg_Ta_words, cr_kinds, cw_kinds, cr_firsts, cw_firsts, cr_seconds, cw_seconds, cr_inputVariables, cw_inputVariables, cr_nameLengths, cw_nameLengths, cr_tallies, cw_tallies, cr_bytes, cw_bytes, cr_words, cw_words, cl_tallies, cr_names, cr_trueB, cr_falseB, cr_name, cw_name, cq_rc, cq_st, cq_size, cq_classes, cq_contradiction, cqp_size, cqp_classes, cqp_contradiction, cq_rd, cq_wr, cq_copy, cl_s_1, cl_s_2, cl_ar_1, cl_ar_2, cl_w_1, cl_w_2, hL.2.1, hL.2.2.1, sub, c_take2, io]
  unfold sp_name at hQ
  cases hp : sp_inp (pC s) x (tS x s) (tZ x s) with
  | some i =>
    rw [hp] at hQ
    have hi := sp_fd_lt _ _ _ hp
    have hv := (hok.1.2.2.2 i (by omega)).1
    have hnm : ¬ nI (2 * cV (pC s) i) = -1 := fun z => cs_m1 (by omega) z.symm
    simp (disch := first | exact ev_ok_i _ | exact ev_ok_r _ | exact ev_ok_n | omega | assumption | decide) only [e_Re_name_29, e_Re_name_30, e_Re_name_31, e_Re_name_34, e_Re_name_35, ev_rm_n, ev_rm_i, ev_rm_r, ev_rm_l, ev_ok_n, ev_ok_i, ev_ok_r, Option.toList_some, Option.toList_none, List.cons_append, List.nil_append, true_and, and_true, true_or, or_true, reduceIte, Nat.reduceEqDiff, if_true, if_false, hnm, if_false]
    exact hQ _ _ hT (fun _ => rfl) (cl_ke_mo kT (fun i z => cl_J4_R z))
  | none =>
    rw [hp] at hQ
    dsimp only at hQ
    have c24 : nI (cI (pC s)) < 24 ↔ cI (pC s) < 24 := nI_ltI (b := 24) (by omega) (by decide)
    have hI : (cl_s τ 34 2 0).1 3 7 = nI (cI (pC s)) := hT.1.1.2.1
    have hN : (cl_s τ 34 2 0).1 3 6 = nI (cN (pC s)) := hT.1.1.1.1.1
    have h62 : (cl_s τ 34 2 0).1 34 6 = 0 := by simp only [cl_s_1, if_true, upd_a, Nat.reduceEqDiff, if_false]; exact h6'
    have full : ∀ (K : Option Value → xo_G → Prop), ev_C X (d + 2) m_Ci_isFull [.ref (B + 3)] (cl_put B (cl_s τ 34 2 0) g) K ↔ K (some (.int (if cN (pC s) = 120 then 1 else 0))) (cl_put B (cl_s τ 34 2 0) g) := fun K => c_ciFull hN hn120
    have bad : ∀ (k : Nat), ¬ k = 0 → cl_P (cl_s (cl_s (cl_s τ 34 2 0) 34 6 (nI k)) 34 7 (nI (tS x s))) x (sp_pass x (sp_fail s k (tS x s))) ∧ cl_ke cl_JR τ (cl_s (cl_s (cl_s τ 34 2 0) 34 6 (nI k)) 34 7 (nI (tS x s))) ∧ ¬ pF (sp_fail s k (tS x s)) = 0 := fun k hk0 => by
      have kk : cl_ke cl_J4 (cl_s τ 34 2 0) (cl_s (cl_s (cl_s τ 34 2 0) 34 6 (nI k)) 34 7 (nI (tS x s))) := cl_ke_tr (cl_ke_s _ 6 _ rfl) (cl_ke_s _ 7 _ rfl)
      have hf : ¬ pF (sp_fail s k (tS x s)) = 0 := sp_fail_f hk0
      have hpp := cl_P_fail (s := s) (x := x) (k := k) (a := tS x s) hi24 hT.1 h0 hk0 kk (by simp only [cl_s_1, if_true, upd_a, Nat.reduceEqDiff, if_false]) (by simp only [cl_s_1, if_true, upd_a])
      exact ⟨⟨hpp.1, hpp.2.1, hpp.2.2.1, fun z => absurd z hf⟩, cl_ke_mo (cl_ke_tr kT kk) (fun i z => cl_J4_R z), hf⟩
    have i10 : ¬ (1 : Int32) = 0 := by decide
    simp (disch := first | exact ev_ok_i _ | exact ev_ok_r _ | exact ev_ok_n | omega | assumption | decide) only [e_Re_name_29, e_Re_name_30, e_Re_name_31, e_Re_name_36, e_Re_name_37, e_Re_name_40, e_Re_name_43, e_Re_name_45, ev_rm_n, ev_rm_i, ev_rm_r, ev_rm_l, ev_ok_n, ev_ok_i, ev_ok_r, Option.toList_some, Option.toList_none, List.cons_append, List.nil_append, true_and, and_true, true_or, or_true, reduceIte, Nat.reduceEqDiff, if_true, if_false, cg_Dp_rc, cg_Dp_text, cg_Dp_circuit, cg_Dp_reader, cg_Dp_current, cg_Dp_working, cg_Dp_saturator, cg_Dp_table, cg_Te_rc, cg_Te_bytes, cg_Te_length, cp_Te_length, cg_Ci_rc, cg_Ci_kinds, cg_Ci_firsts, cg_Ci_seconds, cg_Ci_inputVariables, cg_Ci_names, cg_Ci_nameLengths, cg_Ci_size, cp_Ci_size, cg_Ci_inputs, cp_Ci_inputs, cg_Re_rc, cg_Re_text, cg_Re_circuit, cg_Re_token, cp_Re_token, cg_Re_start, cp_Re_start, cg_Re_next, cp_Re_next, cg_Re_open, cp_Re_open, cg_Re_fault, cp_Re_fault, cg_Re_faultPlace, cp_Re_faultPlace, cg_Sa_rc, cg_Sa_circuit, cg_Sa_before, cg_Sa_trueBranches, cg_Sa_falseBranches, cg_Sa_tallies, cg_Sa_mostSteps, cp_Sa_mostSteps, cg_Sa_spent, cp_Sa_spent, cg_Ta_rc, cg_Ta_circuit, cg_Ta_words, cr_kinds, cw_kinds, cr_firsts, cw_firsts, cr_seconds, cw_seconds, cr_inputVariables, cw_inputVariables, cr_nameLengths, cw_nameLengths, cr_tallies, cw_tallies, cr_bytes, cw_bytes, cr_words, cw_words, cl_tallies, cr_names, cr_trueB, cr_falseB, cr_name, cw_name, cq_rc, cq_st, cq_size, cq_classes, cq_contradiction, cqp_size, cqp_classes, cqp_contradiction, cq_rd, cq_wr, cq_copy, cl_s_1, cl_s_2, cl_ar_1, cl_ar_2, cl_w_1, cl_w_2, c_ciInputs, hI, c24, if_true]
    by_cases d1 : cI (pC s) = 24
    · rw [if_pos d1] at hQ
      have d1' : ¬ cI (pC s) < 24 := by omega
      obtain ⟨b1, b2, b3⟩ := bad 4 (by decide)
      simp (disch := first | exact ev_ok_i _ | exact ev_ok_r _ | exact ev_ok_n | omega | assumption | decide) only [d1', if_false, e_Re_name_48, e_Re_name_49, e_Re_name_50, e_Re_name_51, e_Re_name_54, ev_rm_n, ev_rm_i, ev_rm_r, ev_rm_l, ev_ok_n, ev_ok_i, ev_ok_r, Option.toList_some, Option.toList_none, List.cons_append, List.nil_append, true_and, and_true, true_or, or_true, reduceIte, Nat.reduceEqDiff, if_true, if_false, cg_Dp_rc, cg_Dp_text, cg_Dp_circuit, cg_Dp_reader, cg_Dp_current, cg_Dp_working, cg_Dp_saturator, cg_Dp_table, cg_Te_rc, cg_Te_bytes, cg_Te_length, cp_Te_length, cg_Ci_rc, cg_Ci_kinds, cg_Ci_firsts, cg_Ci_seconds, cg_Ci_inputVariables, cg_Ci_names, cg_Ci_nameLengths, cg_Ci_size, cp_Ci_size, cg_Ci_inputs, cp_Ci_inputs, cg_Re_rc, cg_Re_text, cg_Re_circuit, cg_Re_token, cp_Re_token, cg_Re_start, cp_Re_start, cg_Re_next, cp_Re_next, cg_Re_open, cp_Re_open, cg_Re_fault, cp_Re_fault, cg_Re_faultPlace, cp_Re_faultPlace, cg_Sa_rc, cg_Sa_circuit, cg_Sa_before, cg_Sa_trueBranches, cg_Sa_falseBranches, cg_Sa_tallies, cg_Sa_mostSteps, cp_Sa_mostSteps, cg_Sa_spent, cp_Sa_spent, cg_Ta_rc, cg_Ta_circuit, cg_Ta_words, cr_kinds, cw_kinds, cr_firsts, cw_firsts, cr_seconds, cw_seconds, cr_inputVariables, cw_inputVariables, cr_nameLengths, cw_nameLengths, cr_tallies, cw_tallies, cr_bytes, cw_bytes, cr_words, cw_words, cl_tallies, cr_names, cr_trueB, cr_falseB, cr_name, cw_name, cq_rc, cq_st, cq_size, cq_classes, cq_contradiction, cqp_size, cqp_classes, cqp_contradiction, cq_rd, cq_wr, cq_copy, cl_s_1, cl_s_2, cl_ar_1, cl_ar_2, cl_w_1, cl_w_2, c_refuse, h62, if_true]
      exact hQ _ 0 b1 (fun z => absurd z b3) b2
    · rw [if_neg d1] at hQ
      have d1' : cI (pC s) < 24 := by omega
      simp (disch := first | exact ev_ok_i _ | exact ev_ok_r _ | exact ev_ok_n | omega | assumption | decide) only [d1', if_true, e_Re_name_55, e_Re_name_56, e_Re_name_59, ev_rm_n, ev_rm_i, ev_rm_r, ev_rm_l, ev_ok_n, ev_ok_i, ev_ok_r, Option.toList_some, Option.toList_none, List.cons_append, List.nil_append, true_and, and_true, true_or, or_true, reduceIte, Nat.reduceEqDiff, if_true, if_false, cg_Dp_rc, cg_Dp_text, cg_Dp_circuit, cg_Dp_reader, cg_Dp_current, cg_Dp_working, cg_Dp_saturator, cg_Dp_table, cg_Te_rc, cg_Te_bytes, cg_Te_length, cp_Te_length, cg_Ci_rc, cg_Ci_kinds, cg_Ci_firsts, cg_Ci_seconds, cg_Ci_inputVariables, cg_Ci_names, cg_Ci_nameLengths, cg_Ci_size, cp_Ci_size, cg_Ci_inputs, cp_Ci_inputs, cg_Re_rc, cg_Re_text, cg_Re_circuit, cg_Re_token, cp_Re_token, cg_Re_start, cp_Re_start, cg_Re_next, cp_Re_next, cg_Re_open, cp_Re_open, cg_Re_fault, cp_Re_fault, cg_Re_faultPlace, cp_Re_faultPlace, cg_Sa_rc, cg_Sa_circuit, cg_Sa_before, cg_Sa_trueBranches, cg_Sa_falseBranches, cg_Sa_tallies, cg_Sa_mostSteps, cp_Sa_mostSteps, cg_Sa_spent, cp_Sa_spent, cg_Ta_rc, cg_Ta_circuit, cg_Ta_words, cr_kinds, cw_kinds, cr_firsts, cw_firsts, cr_seconds, cw_seconds, cr_inputVariables, cw_inputVariables, cr_nameLengths, cw_nameLengths, cr_tallies, cw_tallies, cr_bytes, cw_bytes, cr_words, cw_words, cl_tallies, cr_names, cr_trueB, cr_falseB, cr_name, cw_name, cq_rc, cq_st, cq_size, cq_classes, cq_contradiction, cqp_size, cqp_classes, cqp_contradiction, cq_rd, cq_wr, cq_copy, cl_s_1, cl_s_2, cl_ar_1, cl_ar_2, cl_w_1, cl_w_2, full]
      by_cases d2 : cN (pC s) = 120
      · rw [if_pos d2] at hQ
        obtain ⟨b1, b2, b3⟩ := bad 5 (by decide)
        simp (disch := first | exact ev_ok_i _ | exact ev_ok_r _ | exact ev_ok_n | omega | assumption | decide) only [d2, if_true, i10, if_false, e_Re_name_62, e_Re_name_65, e_Re_name_66, e_Re_name_67, e_Re_name_68, e_Re_name_71, ev_rm_n, ev_rm_i, ev_rm_r, ev_rm_l, ev_ok_n, ev_ok_i, ev_ok_r, Option.toList_some, Option.toList_none, List.cons_append, List.nil_append, true_and, and_true, true_or, or_true, reduceIte, Nat.reduceEqDiff, if_true, if_false, cg_Dp_rc, cg_Dp_text, cg_Dp_circuit, cg_Dp_reader, cg_Dp_current, cg_Dp_working, cg_Dp_saturator, cg_Dp_table, cg_Te_rc, cg_Te_bytes, cg_Te_length, cp_Te_length, cg_Ci_rc, cg_Ci_kinds, cg_Ci_firsts, cg_Ci_seconds, cg_Ci_inputVariables, cg_Ci_names, cg_Ci_nameLengths, cg_Ci_size, cp_Ci_size, cg_Ci_inputs, cp_Ci_inputs, cg_Re_rc, cg_Re_text, cg_Re_circuit, cg_Re_token, cp_Re_token, cg_Re_start, cp_Re_start, cg_Re_next, cp_Re_next, cg_Re_open, cp_Re_open, cg_Re_fault, cp_Re_fault, cg_Re_faultPlace, cp_Re_faultPlace, cg_Sa_rc, cg_Sa_circuit, cg_Sa_before, cg_Sa_trueBranches, cg_Sa_falseBranches, cg_Sa_tallies, cg_Sa_mostSteps, cp_Sa_mostSteps, cg_Sa_spent, cp_Sa_spent, cg_Ta_rc, cg_Ta_circuit, cg_Ta_words, cr_kinds, cw_kinds, cr_firsts, cw_firsts, cr_seconds, cw_seconds, cr_inputVariables, cw_inputVariables, cr_nameLengths, cw_nameLengths, cr_tallies, cw_tallies, cr_bytes, cw_bytes, cr_words, cw_words, cl_tallies, cr_names, cr_trueB, cr_falseB, cr_name, cw_name, cq_rc, cq_st, cq_size, cq_classes, cq_contradiction, cqp_size, cqp_classes, cqp_contradiction, cq_rd, cq_wr, cq_copy, cl_s_1, cl_s_2, cl_ar_1, cl_ar_2, cl_w_1, cl_w_2, c_refuse, h62]
        exact hQ _ 0 b1 (fun z => absurd z b3) b2
      · rw [if_neg d2] at hQ
        simp (disch := first | exact ev_ok_i _ | exact ev_ok_r _ | exact ev_ok_n | omega | assumption | decide) only [d2, if_false, if_true, e_Re_name_62, e_Re_name_72, e_Re_name_73, e_Re_name_76, e_Re_name_77, e_Re_name_80, e_Re_name_81, e_Re_name_82, ev_rm_n, ev_rm_i, ev_rm_r, ev_rm_l, ev_ok_n, ev_ok_i, ev_ok_r, Option.toList_some, Option.toList_none, List.cons_append, List.nil_append, true_and, and_true, true_or, or_true, reduceIte, Nat.reduceEqDiff, if_true, if_false, cg_Dp_rc, cg_Dp_text, cg_Dp_circuit, cg_Dp_reader, cg_Dp_current, cg_Dp_working, cg_Dp_saturator, cg_Dp_table, cg_Te_rc, cg_Te_bytes, cg_Te_length, cp_Te_length, cg_Ci_rc, cg_Ci_kinds, cg_Ci_firsts, cg_Ci_seconds, cg_Ci_inputVariables, cg_Ci_names, cg_Ci_nameLengths, cg_Ci_size, cp_Ci_size, cg_Ci_inputs, cp_Ci_inputs, cg_Re_rc, cg_Re_text, cg_Re_circuit, cg_Re_token, cp_Re_token, cg_Re_start, cp_Re_start, cg_Re_next, cp_Re_next, cg_Re_open, cp_Re_open, cg_Re_fault, cp_Re_fault, cg_Re_faultPlace, cp_Re_faultPlace, cg_Sa_rc, cg_Sa_circuit, cg_Sa_before, cg_Sa_trueBranches, cg_Sa_falseBranches, cg_Sa_tallies, cg_Sa_mostSteps, cp_Sa_mostSteps, cg_Sa_spent, cp_Sa_spent, cg_Ta_rc, cg_Ta_circuit, cg_Ta_words, cr_kinds, cw_kinds, cr_firsts, cw_firsts, cr_seconds, cw_seconds, cr_inputVariables, cw_inputVariables, cr_nameLengths, cw_nameLengths, cr_tallies, cw_tallies, cr_bytes, cw_bytes, cr_words, cw_words, cl_tallies, cr_names, cr_trueB, cr_falseB, cr_name, cw_name, cq_rc, cq_st, cq_size, cq_classes, cq_contradiction, cqp_size, cqp_classes, cqp_contradiction, cq_rd, cq_wr, cq_copy, cl_s_1, cl_s_2, cl_ar_1, cl_ar_2, cl_w_1, cl_w_2]
        rw [show d + 2 = d + 1 + 1 by omega]
        refine c_addInput hT.1.1 hok.1 hT.1.2 hx3 hin hz6 hbt d1' (show cN (pC s) < 120 by omega) (fun τ2 q1 q2 => ?_)
        simp (disch := first | exact ev_ok_i _ | exact ev_ok_r _ | exact ev_ok_n | omega | assumption | decide) only [e_Re_name_85, ev_rm_n, ev_rm_i, ev_rm_r, ev_rm_l, ev_ok_n, ev_ok_i, ev_ok_r, Option.toList_some, Option.toList_none, List.cons_append, List.nil_append, true_and, and_true, true_or, or_true, reduceIte, Nat.reduceEqDiff, if_true, if_false]
        have e34 : τ2.1 34 = (cl_s τ 34 2 0).1 34 := q2.1 34 (by decide)
        refine hQ τ2 _ ⟨⟨q1, cl_xR_ke q2 (by decide) (by decide) hT.1.2⟩, ?_, fun w => absurd h0 w, fun z => ?_⟩ (fun _ => rfl) (cl_ke_tr (cl_ke_mo kT (fun i z => cl_J4_R z)) (cl_ke_mo q2 (fun i z => cl_JC_R z)))
        · rw [e34]; exact hT.2.1
        · have h8 := hT.2.2.2 h0
          unfold cl_L at h8 ⊢
          rw [e34]
          exact h8
end CR5
