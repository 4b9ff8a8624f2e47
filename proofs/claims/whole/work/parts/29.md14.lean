/-! THE WORLD of the specification: circuit, equivalence, text, place of the fault, tallies; the reference holds it -/
abbrev sp_C : Type := Nat × (Nat → Nat) × (Nat → Nat) × (Nat → Nat) × Nat × (Nat → Nat) × (Nat → Nat → Int32) × (Nat → Nat)
abbrev cN (c : sp_C) : Nat := c.1
abbrev cK (c : sp_C) : Nat → Nat := c.2.1
abbrev cA (c : sp_C) : Nat → Nat := c.2.2.1
abbrev cB (c : sp_C) : Nat → Nat := c.2.2.2.1
abbrev cI (c : sp_C) : Nat := c.2.2.2.2.1
abbrev cV (c : sp_C) : Nat → Nat := c.2.2.2.2.2.1
abbrev cM (c : sp_C) : Nat → Nat → Int32 := c.2.2.2.2.2.2.1
abbrev cS (c : sp_C) : Nat → Nat := c.2.2.2.2.2.2.2
abbrev sp_X : Type := (Nat → Int32) × Nat
abbrev sp_W : Type := sp_C × sp_E × sp_X × Int32 × sp_T
def sp_cok (c : sp_C) : Prop := (1 ≤ cN c ∧ cN c ≤ 120 ∧ cI c ≤ 24) ∧ (∀ v, 1 ≤ v → v < cN c → (cK c v = 1 ∧ cA c v < cI c ∧ cB c v = 0) ∨ ((cK c v = 2 ∨ cK c v = 3) ∧ cA c v < 2 * v ∧ cB c v < 2 * v)) ∧ (cK c 0 = 0 ∧ cA c 0 = 0 ∧ cB c 0 = 0) ∧ ∀ i, i < cI c → cV c i < cN c ∧ cS c i ≤ 6
def sp_wok (w : sp_W) : Prop := sp_cok w.1 ∧ sp_va (cN w.1) w.2.1 ∧ w.2.2.1.2 ≤ 3000
theorem sp_cok_wf {c : sp_C} (h : sp_cok c) : sp_wf (cN c) (cK c) (cA c) (cB c) := by
  intro v hv hk
  by_cases h0 : v = 0
  · subst h0
    have h1 := h.2.2.1.1
    rcases hk with e | e <;> omega
  · rcases h.2.1 v (by omega) hv with ⟨e, -, -⟩ | ⟨-, a, b⟩
    · rcases hk with e2 | e2 <;> omega
    · exact ⟨by omega, by omega⟩
def md_cR (σ : md_S) (c : sp_C) : Prop := md_ci σ (cN c) (cK c) (cA c) (cB c) ∧ σ.1 4 = nI (cI c) ∧ ∀ i, i < cI c → σ.2 5 i = nI (cV c i) ∧ σ.2 7 i = nI (cS c i) ∧ ∀ k, k < cS c i → σ.2 6 (6 * i + k) = cM c i k
def md_eR (σ : md_S) (n : Nat) (E : sp_E) : Prop := (∀ l, l < 2 * n → σ.2 8 l = nI (E.1 l)) ∧ σ.1 9 = sp_zb E.2
def md_xR (σ : md_S) (x : sp_X) : Prop := σ.1 11 = nI x.2 ∧ ∀ j, j < x.2 → σ.2 10 j = x.1 j
def md_R (σ : md_S) (w : sp_W) : Prop := md_cR σ w.1 ∧ md_eR σ (cN w.1) w.2.1 ∧ md_xR σ w.2.2.1 ∧ σ.1 19 = w.2.2.2.1 ∧ md_tt σ w.2.2.2.2
/-- what a saturation may change -/
theorem md_cR_fr {σ σ2 : md_S} {c : sp_C} (h : md_fr σ σ2 0) (hR : md_cR σ c) : md_cR σ2 c := by
  refine ⟨md_ci_fr h hR.1, by rw [h.1 4 (by decide) (by decide) (by decide) (by decide)]; exact hR.2.1, fun i hi => ?_⟩
  rw [h.2.1 5 (by decide), h.2.1 6 (by decide), h.2.1 7 (by decide)]
  exact hR.2.2 i hi
theorem md_eR_fr {σ σ2 : md_S} {n : Nat} {E : sp_E} (h : md_fr σ σ2 0) (hR : md_eR σ n E) : md_eR σ2 n E := by
  unfold md_eR
  rw [h.2.1 8 (by decide), h.1 9 (by decide) (by decide) (by decide) (by decide)]
  exact hR
theorem md_xR_fr {σ σ2 : md_S} {x : sp_X} (h : md_fr σ σ2 0) (hR : md_xR σ x) : md_xR σ2 x := by
  unfold md_xR
  rw [h.2.1 10 (by decide), h.1 11 (by decide) (by decide) (by decide) (by decide)]
  exact hR
theorem md_R_fr {σ σ2 : md_S} {w : sp_W} {t : sp_T} (h : md_fr σ σ2 0) (hR : md_R σ w) (ht : md_tt σ2 t) : md_R σ2 (w.1, w.2.1, w.2.2.1, w.2.2.2.1, t) := ⟨md_cR_fr h hR.1, md_eR_fr h hR.2.1, md_xR_fr h hR.2.2.1, by rw [h.1 19 (by decide) (by decide) (by decide) (by decide)]; exact hR.2.2.2.1, ht⟩
/-- a literal, as it is given -/
def sp_lit (n : Nat) (x : Int32) : Option Nat := if x < 0 ∨ 2 * n ≤ x.toNatClampNeg then none else some x.toNatClampNeg
theorem sp_lit_s {n a : Nat} {x : Int32} (h : sp_lit n x = some a) : x = nI a ∧ a < 2 * n := by
  unfold sp_lit at h
  split at h
  · cases h
  · rename_i hc
    cases h
    obtain ⟨j, hj, rfl⟩ := nI_of (fun z => hc (Or.inl z))
    rw [nI_clamp hj] at hc ⊢
    exact ⟨rfl, by omega⟩
theorem sp_lit_n {n : Nat} {x : Int32} (hn : n ≤ 120) (h : sp_lit n x = none) : x < 0 ∨ nI (2 * n) ≤ x := by
  unfold sp_lit at h
  split at h
  · rename_i hc
    by_cases h0 : x < 0
    · exact Or.inl h0
    · obtain ⟨j, hj, rfl⟩ := nI_of h0
      rw [nI_clamp hj] at hc
      exact Or.inr ((nI_leI (by omega) hj).mpr (hc.resolve_left h0))
  · cases h
theorem sp_lit_a {n a : Nat} (hn : n ≤ 120) (h : a < 2 * n) : sp_lit n (nI a) = some a := by
  unfold sp_lit
  rw [nI_clamp (by omega), if_neg]
  intro hc
  rcases hc with hc | hc
  · exact nI_pos (by omega) hc
  · omega
section M14
variable {X : xo_X} {d B : Nat} {σ : md_S} {g : xo_G} {Q : Option Value → xo_G → Prop}
theorem c_isLiteral {n : Nat} (h3 : σ.1 3 = nI n) (hn : n ≤ 120) (x : Int32) : ev_C X d m_Md_isLiteral [.ref B, .int x] (md_put B σ g) Q ↔ Q (some (.int (match sp_lit n x with | some _ => 1 | none => 0))) (md_put B σ g) := by
  show ev_R X d m_Md_isLiteral 0 [some (.ref B), some (.int x)] [] (md_put B σ g) Q ↔ _
  simp (disch := first | exact ev_ok_i _ | exact ev_ok_r _ | exact ev_ok_n | omega | assumption) only [e_Md_isLiteral_0, e_Md_isLiteral_1, e_Md_isLiteral_4, e_Md_isLiteral_5, e_Md_isLiteral_6, e_Md_isLiteral_7, e_Md_isLiteral_10, e_Md_isLiteral_11, e_Md_isLiteral_14, e_Md_isLiteral_15, e_Md_isLiteral_18, e_Md_isLiteral_19, ev_rm_n, ev_rm_i, ev_rm_r, ev_rm_l, ev_ok_n, ev_ok_i, ev_ok_r, Option.toList_some, Option.toList_none, List.cons_append, List.nil_append, true_and, and_true, true_or, or_true, reduceIte, Nat.reduceEqDiff, if_true, if_false, md_rc, md_si_1, md_si_2, md_sa_1, md_sa_2, mg_kind, mr_kind, mw_kind, mg_one, mr_one, mw_one, mg_two, mr_two, mw_two, mg_variables, mp_variables, mg_inputs, mp_inputs, mg_inputOf, mr_inputOf, mw_inputOf, mg_nameSign, mr_nameSign, mw_nameSign, mg_nameSize, mr_nameSize, mw_nameSize, mg_label, mr_label, mw_label, mg_isContrary, mp_isContrary, mg_text, mr_text, mw_text, mg_textSize, mp_textSize, mg_at, mp_at, mg_token, mp_token, mg_tokenAt, mp_tokenAt, mg_tokenSize, mp_tokenSize, mg_scanned, mp_scanned, mg_fault, mp_fault, mg_faultAt, mp_faultAt, mg_place, mp_place, mg_open, mp_open, mg_level, mr_level, mw_level, mg_stage, mr_stage, mw_stage, mg_held, mr_held, mw_held, mg_signPlace, mr_signPlace, mw_signPlace, mg_value, mp_value, mg_row, mr_row, mw_row, mg_contrary, mr_contrary, mw_contrary, mg_firstRow, mr_firstRow, mw_firstRow, mg_firstContrary, mr_firstContrary, mw_firstContrary, mg_depthOf, mr_depthOf, mw_depthOf, mg_phase, mr_phase, mw_phase, mg_tried, mr_tried, mw_tried, mg_before, mr_before, mw_before, mg_old, mr_old, mw_old, mg_steps, mp_steps, mg_mostSteps, mp_mostSteps, mg_rounds, mp_rounds, mg_passes, mp_passes, mg_branches, mp_branches, mg_worth, mr_worth, mw_worth, h3, nL_2]
  cases h : sp_lit n x with
  | none =>
    rcases sp_lit_n hn h with h1 | h1
    · simp only [h1, if_true]
    · simp only [h1, if_true, ite_self]
  | some a =>
    obtain ⟨rfl, ha⟩ := sp_lit_s h
    have h1 : ¬ nI a < 0 := nI_pos (by omega)
    have h2 : ¬ 2 * n ≤ a := by omega
    simp (disch := first | exact ev_ok_i _ | exact ev_ok_r _ | exact ev_ok_n | omega | assumption) only [h1, nI_leI, h2, if_false]
def sp_var (n : Nat) (x : Int32) : Option Nat := if x < 0 ∨ n ≤ x.toNatClampNeg then none else some x.toNatClampNeg
theorem sp_var_s {n a : Nat} {x : Int32} (h : sp_var n x = some a) : x = nI a ∧ a < n := by
  unfold sp_var at h
  split at h
  · cases h
  · rename_i hc
    cases h
    obtain ⟨j, hj, rfl⟩ := nI_of (fun z => hc (Or.inl z))
    rw [nI_clamp hj] at hc ⊢
    exact ⟨rfl, by omega⟩
theorem sp_var_n {n : Nat} {x : Int32} (hn : n ≤ 120) (h : sp_var n x = none) : x < 0 ∨ nI n ≤ x := by
  unfold sp_var at h
  split at h
  · rename_i hc
    by_cases h0 : x < 0
    · exact Or.inl h0
    · obtain ⟨j, hj, rfl⟩ := nI_of h0
      rw [nI_clamp hj] at hc
      exact Or.inr ((nI_leI (by omega) hj).mpr (hc.resolve_left h0))
  · cases h
theorem c_isVariable {n : Nat} (h3 : σ.1 3 = nI n) (hn : n ≤ 120) (x : Int32) : ev_C X d m_Md_isVariable [.ref B, .int x] (md_put B σ g) Q ↔ Q (some (.int (match sp_var n x with | some _ => 1 | none => 0))) (md_put B σ g) := by
  show ev_R X d m_Md_isVariable 0 [some (.ref B), some (.int x)] [] (md_put B σ g) Q ↔ _
  simp (disch := first | exact ev_ok_i _ | exact ev_ok_r _ | exact ev_ok_n | omega | assumption) only [e_Md_isVariable_0, e_Md_isVariable_1, e_Md_isVariable_4, e_Md_isVariable_5, e_Md_isVariable_6, e_Md_isVariable_9, e_Md_isVariable_12, e_Md_isVariable_13, e_Md_isVariable_16, e_Md_isVariable_17, ev_rm_n, ev_rm_i, ev_rm_r, ev_rm_l, ev_ok_n, ev_ok_i, ev_ok_r, Option.toList_some, Option.toList_none, List.cons_append, List.nil_append, true_and, and_true, true_or, or_true, reduceIte, Nat.reduceEqDiff, if_true, if_false, md_rc, md_si_1, md_si_2, md_sa_1, md_sa_2, mg_kind, mr_kind, mw_kind, mg_one, mr_one, mw_one, mg_two, mr_two, mw_two, mg_variables, mp_variables, mg_inputs, mp_inputs, mg_inputOf, mr_inputOf, mw_inputOf, mg_nameSign, mr_nameSign, mw_nameSign, mg_nameSize, mr_nameSize, mw_nameSize, mg_label, mr_label, mw_label, mg_isContrary, mp_isContrary, mg_text, mr_text, mw_text, mg_textSize, mp_textSize, mg_at, mp_at, mg_token, mp_token, mg_tokenAt, mp_tokenAt, mg_tokenSize, mp_tokenSize, mg_scanned, mp_scanned, mg_fault, mp_fault, mg_faultAt, mp_faultAt, mg_place, mp_place, mg_open, mp_open, mg_level, mr_level, mw_level, mg_stage, mr_stage, mw_stage, mg_held, mr_held, mw_held, mg_signPlace, mr_signPlace, mw_signPlace, mg_value, mp_value, mg_row, mr_row, mw_row, mg_contrary, mr_contrary, mw_contrary, mg_firstRow, mr_firstRow, mw_firstRow, mg_firstContrary, mr_firstContrary, mw_firstContrary, mg_depthOf, mr_depthOf, mw_depthOf, mg_phase, mr_phase, mw_phase, mg_tried, mr_tried, mw_tried, mg_before, mr_before, mw_before, mg_old, mr_old, mw_old, mg_steps, mp_steps, mg_mostSteps, mp_mostSteps, mg_rounds, mp_rounds, mg_passes, mp_passes, mg_branches, mp_branches, mg_worth, mr_worth, mw_worth, h3]
  cases h : sp_var n x with
  | none =>
    rcases sp_var_n hn h with h1 | h1
    · simp only [h1, if_true]
    · simp only [h1, if_true, ite_self]
  | some a =>
    obtain ⟨rfl, ha⟩ := sp_var_s h
    have h1 : ¬ nI a < 0 := nI_pos (by omega)
    have h2 : ¬ n ≤ a := by omega
    simp (disch := first | exact ev_ok_i _ | exact ev_ok_r _ | exact ev_ok_n | omega | assumption) only [h1, nI_leI, h2, if_false]
theorem c_beginTold (x : Int32) : ev_C X d m_Md_beginTold [.ref B, .int x] (md_put B σ g) Q ↔ Q none (md_put B (md_si (md_si (md_si (md_si (md_si σ 35 0) 36 x) 37 0) 38 0) 39 0) g) := by
  show ev_R X d m_Md_beginTold 0 [some (.ref B), some (.int x)] [] (md_put B σ g) Q ↔ _
  simp (disch := first | exact ev_ok_i _ | exact ev_ok_r _ | exact ev_ok_n | omega | assumption) only [e_Md_beginTold_0, e_Md_beginTold_1, e_Md_beginTold_2, e_Md_beginTold_5, e_Md_beginTold_6, e_Md_beginTold_7, e_Md_beginTold_10, e_Md_beginTold_11, e_Md_beginTold_12, e_Md_beginTold_15, e_Md_beginTold_16, e_Md_beginTold_17, e_Md_beginTold_20, e_Md_beginTold_21, e_Md_beginTold_22, e_Md_beginTold_25, ev_rm_n, ev_rm_i, ev_rm_r, ev_rm_l, ev_ok_n, ev_ok_i, ev_ok_r, Option.toList_some, Option.toList_none, List.cons_append, List.nil_append, true_and, and_true, true_or, or_true, reduceIte, Nat.reduceEqDiff, if_true, if_false, md_rc, md_si_1, md_si_2, md_sa_1, md_sa_2, mg_kind, mr_kind, mw_kind, mg_one, mr_one, mw_one, mg_two, mr_two, mw_two, mg_variables, mp_variables, mg_inputs, mp_inputs, mg_inputOf, mr_inputOf, mw_inputOf, mg_nameSign, mr_nameSign, mw_nameSign, mg_nameSize, mr_nameSize, mw_nameSize, mg_label, mr_label, mw_label, mg_isContrary, mp_isContrary, mg_text, mr_text, mw_text, mg_textSize, mp_textSize, mg_at, mp_at, mg_token, mp_token, mg_tokenAt, mp_tokenAt, mg_tokenSize, mp_tokenSize, mg_scanned, mp_scanned, mg_fault, mp_fault, mg_faultAt, mp_faultAt, mg_place, mp_place, mg_open, mp_open, mg_level, mr_level, mw_level, mg_stage, mr_stage, mw_stage, mg_held, mr_held, mw_held, mg_signPlace, mr_signPlace, mw_signPlace, mg_value, mp_value, mg_row, mr_row, mw_row, mg_contrary, mr_contrary, mw_contrary, mg_firstRow, mr_firstRow, mw_firstRow, mg_firstContrary, mr_firstContrary, mw_firstContrary, mg_depthOf, mr_depthOf, mw_depthOf, mg_phase, mr_phase, mw_phase, mg_tried, mr_tried, mw_tried, mg_before, mr_before, mw_before, mg_old, mr_old, mw_old, mg_steps, mp_steps, mg_mostSteps, mp_mostSteps, mg_rounds, mp_rounds, mg_passes, mp_passes, mg_branches, mp_branches, mg_worth, mr_worth, mw_worth]
/-- depth and steps outside their ranges -/
abbrev sp_out (a b : Int32) : Prop := a < 0 ∨ 4 < a ∨ b < 0 ∨ 5000 < b
theorem c_isOut (a b : Int32) : ev_C X d m_Md_isOut [.int a, .int b] g Q ↔ Q (some (.int (if sp_out a b then 1 else 0))) g := by
  show ev_R X d m_Md_isOut 0 [some (.int a), some (.int b)] [] g Q ↔ _
  simp (disch := first | exact ev_ok_i _ | exact ev_ok_r _ | exact ev_ok_n | omega | assumption) only [e_Md_isOut_0, e_Md_isOut_1, e_Md_isOut_4, e_Md_isOut_5, e_Md_isOut_6, e_Md_isOut_9, e_Md_isOut_10, e_Md_isOut_13, e_Md_isOut_14, e_Md_isOut_17, e_Md_isOut_20, e_Md_isOut_21, e_Md_isOut_24, e_Md_isOut_25, ev_rm_n, ev_rm_i, ev_rm_r, ev_rm_l, ev_ok_n, ev_ok_i, ev_ok_r, Option.toList_some, Option.toList_none, List.cons_append, List.nil_append, true_and, and_true, true_or, or_true, reduceIte, Nat.reduceEqDiff, if_true, if_false]
  by_cases h1 : a < 0
  · simp [sp_out, h1]
  · by_cases h2 : 4 < a
    · simp [sp_out, h1, h2]
    · by_cases h3 : b < 0
      · simp [sp_out, h1, h2, h3]
      · by_cases h4 : b ≤ 5000
        · have h5 : ¬ 5000 < b := Int32.not_lt.mpr h4
          simp [sp_out, h1, h2, h3, h4, h5]
        · have h5 : 5000 < b := Int32.not_le.mp h4
          simp [sp_out, h1, h2, h3, h4, h5]
/-- SATURATED, the reference's whole machine of frames -/
theorem c_saturated {n ms k : Nat} {kd o1 o2 : Nat → Nat} (hc : md_ci σ n kd o1 o2) (hw : sp_wf n kd o1 o2) (hm : σ.1 36 = nI ms) (hms : ms < 2 ^ 31) {E : sp_E} {t : sp_T} (ho : sp_ok n ms E t) (hr : md_rw σ n 0 E) (ht : md_tt σ t) (hk : k ≤ 4)
    (hS : (sp_sk n kd o1 o2 ms k E t).1 = true → ∀ σ2, md_fr σ σ2 0 → md_tt σ2 (sp_sk n kd o1 o2 ms k E t).2.2 → Q (some (.int 0)) (md_put B σ2 g))
    (hG : (sp_sk n kd o1 o2 ms k E t).1 = false → ∀ σ2, md_fr σ σ2 0 → md_tt σ2 (sp_sk n kd o1 o2 ms k E t).2.2 → md_rw σ2 n 0 (sp_sk n kd o1 o2 ms k E t).2.1 → Q (some (.int 1)) (md_put B σ2 g)) : ev_C X (d + 5) m_Md_saturated [.ref B, .int (nI k)] (md_put B σ g) Q := by
  show ev_R X (d + 5) m_Md_saturated 0 [some (.ref B), some (.int (nI k)), none, none] [] (md_put B σ g) Q
  have h00 : (0 : Int32).toNatClampNeg = 0 := rfl
  simp (disch := first | exact ev_ok_i _ | exact ev_ok_r _ | exact ev_ok_n | omega | assumption) only [e_Md_saturated_0, e_Md_saturated_1, e_Md_saturated_2, e_Md_saturated_3, e_Md_saturated_6, e_Md_saturated_7, e_Md_saturated_8, e_Md_saturated_9, e_Md_saturated_10, e_Md_saturated_13, e_Md_saturated_14, e_Md_saturated_15, ev_rm_n, ev_rm_i, ev_rm_r, ev_rm_l, ev_ok_n, ev_ok_i, ev_ok_r, Option.toList_some, Option.toList_none, List.cons_append, List.nil_append, true_and, and_true, true_or, or_true, reduceIte, Nat.reduceEqDiff, if_true, if_false, md_rc, md_si_1, md_si_2, md_sa_1, md_sa_2, mg_kind, mr_kind, mw_kind, mg_one, mr_one, mw_one, mg_two, mr_two, mw_two, mg_variables, mp_variables, mg_inputs, mp_inputs, mg_inputOf, mr_inputOf, mw_inputOf, mg_nameSign, mr_nameSign, mw_nameSign, mg_nameSize, mr_nameSize, mw_nameSize, mg_label, mr_label, mw_label, mg_isContrary, mp_isContrary, mg_text, mr_text, mw_text, mg_textSize, mp_textSize, mg_at, mp_at, mg_token, mp_token, mg_tokenAt, mp_tokenAt, mg_tokenSize, mp_tokenSize, mg_scanned, mp_scanned, mg_fault, mp_fault, mg_faultAt, mp_faultAt, mg_place, mp_place, mg_open, mp_open, mg_level, mr_level, mw_level, mg_stage, mr_stage, mw_stage, mg_held, mr_held, mw_held, mg_signPlace, mr_signPlace, mw_signPlace, mg_value, mp_value, mg_row, mr_row, mw_row, mg_contrary, mr_contrary, mw_contrary, mg_firstRow, mr_firstRow, mw_firstRow, mg_firstContrary, mr_firstContrary, mw_firstContrary, mg_depthOf, mr_depthOf, mw_depthOf, mg_phase, mr_phase, mw_phase, mg_tried, mr_tried, mw_tried, mg_before, mr_before, mw_before, mg_old, mr_old, mw_old, mg_steps, mp_steps, mg_mostSteps, mp_mostSteps, mg_rounds, mp_rounds, mg_passes, mp_passes, mg_branches, mp_branches, mg_worth, mr_worth, mw_worth, xo_o0, h00]
  have F : md_fr σ (md_sa (md_sa σ 30 0 (nI k)) 31 0 0) 0 := md_fr_sa2 (md_fr_sa σ _ (by decide) (by decide) (by decide) (Nat.le_refl 0)) (by decide) (by decide) (by decide) (Nat.le_refl 0)
  refine md_SK_all (X := X) (d := d) (B := B) (dp := nI k) (g := g) hw hms k 0 E t _ none Q (by omega) (md_ci_fr F hc) (md_ms_fr F hm) ho ⟨fun l hl => hr.1 l hl, hr.2⟩ (by simp [md_sa_2, upd_a]) (by simp [md_sa_2, upd_a]) ht (fun h σ2 f1 f2 => hS h σ2 (md_fr_tr F f1 (Nat.le_refl 0)) f2) (fun h σ2 l3 f1 f2 f3 => ?_)
  unfold md_hd
  have hneg : nI 0 + (-1) < 0 := by decide
  simp (disch := first | exact ev_ok_i _ | exact ev_ok_r _ | exact ev_ok_n | omega | assumption) only [e_Md_saturated_16, e_Md_saturated_17, e_Md_saturated_350, e_Md_saturated_351, ev_rm_n, ev_rm_i, ev_rm_r, ev_rm_l, ev_ok_n, ev_ok_i, ev_ok_r, Option.toList_some, Option.toList_none, List.cons_append, List.nil_append, true_and, and_true, true_or, or_true, reduceIte, Nat.reduceEqDiff, if_true, if_false, hneg, if_true]
  exact hG h σ2 (md_fr_tr F f1 (Nat.le_refl 0)) f2 f3
end M14
