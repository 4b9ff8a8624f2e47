/-! the reference's rows of labels: filled, counted, joined -/
/-- field k's places lo .. hi - 1 hold f -/
def md_fi (σ : md_S) (k : Nat) (f : Nat → Int32) (lo hi : Nat) : md_S := (σ.1, va_up σ.2 k (fun j => if lo ≤ j ∧ j < hi then f j else σ.2 k j))
theorem md_fi_1 (σ : md_S) (k : Nat) (f : Nat → Int32) (lo hi : Nat) : (md_fi σ k f lo hi).1 = σ.1 := rfl
theorem md_fi_2 (σ : md_S) (k q : Nat) (f : Nat → Int32) (lo hi : Nat) : (md_fi σ k f lo hi).2 q = if q = k then (fun j => if lo ≤ j ∧ j < hi then f j else σ.2 k j) else σ.2 q := rfl
theorem md_fi_0 (σ : md_S) (k : Nat) (f : Nat → Int32) (lo : Nat) : md_fi σ k f lo lo = σ := by
  refine Prod.ext rfl (funext fun q => ?_)
  rw [md_fi_2]
  split
  · subst q
    funext j
    rw [if_neg (by omega)]
  · rfl
theorem md_fi_s (σ : md_S) (k : Nat) (f : Nat → Int32) {lo v : Nat} (h : lo ≤ v) {x : Int32} (hx : x = f v) : md_sa (md_fi σ k f lo v) k v x = md_fi σ k f lo (v + 1) := by
  subst hx
  refine Prod.ext rfl (funext fun q => ?_)
  simp only [md_sa_2, md_fi_2]
  by_cases e : q = k
  · subst e
    simp only [if_true]
    funext j
    unfold upd
    by_cases hj : j = v
    · subst hj
      rw [if_pos rfl, if_pos (by omega)]
    · rw [if_neg hj]
      dsimp only
      by_cases h2 : lo ≤ j ∧ j < v
      · rw [if_pos h2, if_pos (by omega)]
      · rw [if_neg h2, if_neg (by omega)]
  · simp only [e, if_false]
def sp_ct (p : Nat → Bool) : Nat → Nat → Nat
  | _, 0 => 0
  | v, m + 1 => (if p v then 1 else 0) + sp_ct p (v + 1) m
theorem sp_ct_le (p : Nat → Bool) : ∀ m v, sp_ct p v m ≤ m := by
  intro m
  induction m with
  | zero => intro v; simp [sp_ct]
  | succ m ih =>
    intro v
    have := ih (v + 1)
    unfold sp_ct
    split <;> omega
theorem xo_o0 {n : Nat} (h : 0 < n) (hn : n < 2 ^ 31) : xo_out 0 n = false := xo_in (v := 0) h hn
theorem nZ_1 : vp_nar .boolean 1 = 1 := by decide +kernel
theorem nZ_0 : vp_nar .boolean 0 = 0 := by decide +kernel
theorem nL_a0 (a : Nat) : nI a + 0 = nI a := nI_add a 0
section M2
variable {X : xo_X} {d B : Nat} {σ : md_S} {g : xo_G} {Q : Option Value → xo_G → Prop}
theorem c_alone_loop {n : Nat} (h1 : σ.1 3 = nI n) (hn : n ≤ 120) : ∀ (m v : Nat), v + m = 2 * n → (ev_R X d m_Md_alone 2 [some (.ref B), some (.int (nI v))] [] (md_put B (md_fi σ 8 nI 0 v) g) Q ↔ Q none (md_put B (md_si (md_fi σ 8 nI 0 (2 * n)) 9 0) g)) := by
  intro m
  induction m with
  | zero =>
    intro v hv
    have e : v = 2 * n := by omega
    subst e
    simp (disch := first | exact ev_ok_i _ | exact ev_ok_r _ | exact ev_ok_n | omega | assumption) only [e_Md_alone_2, e_Md_alone_3, e_Md_alone_4, e_Md_alone_5, e_Md_alone_8, e_Md_alone_9, e_Md_alone_25, e_Md_alone_26, e_Md_alone_27, e_Md_alone_30, ev_rm_n, ev_rm_i, ev_rm_r, ev_rm_l, ev_ok_n, ev_ok_i, ev_ok_r, Option.toList_some, Option.toList_none, List.cons_append, List.nil_append, true_and, and_true, true_or, or_true, reduceIte, Nat.reduceEqDiff, if_true, if_false, md_rc, md_si_1, md_si_2, md_sa_1, md_sa_2, mg_kind, mr_kind, mw_kind, mg_one, mr_one, mw_one, mg_two, mr_two, mw_two, mg_variables, mp_variables, mg_inputs, mp_inputs, mg_inputOf, mr_inputOf, mw_inputOf, mg_nameSign, mr_nameSign, mw_nameSign, mg_nameSize, mr_nameSize, mw_nameSize, mg_label, mr_label, mw_label, mg_isContrary, mp_isContrary, mg_text, mr_text, mw_text, mg_textSize, mp_textSize, mg_at, mp_at, mg_token, mp_token, mg_tokenAt, mp_tokenAt, mg_tokenSize, mp_tokenSize, mg_scanned, mp_scanned, mg_fault, mp_fault, mg_faultAt, mp_faultAt, mg_place, mp_place, mg_open, mp_open, mg_level, mr_level, mw_level, mg_stage, mr_stage, mw_stage, mg_held, mr_held, mw_held, mg_signPlace, mr_signPlace, mw_signPlace, mg_value, mp_value, mg_row, mr_row, mw_row, mg_contrary, mr_contrary, mw_contrary, mg_firstRow, mr_firstRow, mw_firstRow, mg_firstContrary, mr_firstContrary, mw_firstContrary, mg_depthOf, mr_depthOf, mw_depthOf, mg_phase, mr_phase, mw_phase, mg_tried, mr_tried, mw_tried, mg_before, mr_before, mw_before, mg_old, mr_old, mw_old, mg_steps, mp_steps, mg_mostSteps, mp_mostSteps, mg_rounds, mp_rounds, mg_passes, mp_passes, mg_branches, mp_branches, mg_worth, mr_worth, mw_worth, md_fi_1, h1, nL_2, nI_leI, Nat.le_refl]
  | succ m ih =>
    intro v hv
    have hih := ih (v + 1) (by omega)
    have hlt : ¬ 2 * n ≤ v := by omega
    simp (disch := first | exact ev_ok_i _ | exact ev_ok_r _ | exact ev_ok_n | omega | assumption) only [e_Md_alone_2, e_Md_alone_3, e_Md_alone_4, e_Md_alone_5, e_Md_alone_8, e_Md_alone_9, e_Md_alone_12, e_Md_alone_13, e_Md_alone_16, e_Md_alone_17, e_Md_alone_18, e_Md_alone_19, ev_rm_n, ev_rm_i, ev_rm_r, ev_rm_l, ev_ok_n, ev_ok_i, ev_ok_r, Option.toList_some, Option.toList_none, List.cons_append, List.nil_append, true_and, and_true, true_or, or_true, reduceIte, Nat.reduceEqDiff, if_true, if_false, md_rc, md_si_1, md_si_2, md_sa_1, md_sa_2, mg_kind, mr_kind, mw_kind, mg_one, mr_one, mw_one, mg_two, mr_two, mw_two, mg_variables, mp_variables, mg_inputs, mp_inputs, mg_inputOf, mr_inputOf, mw_inputOf, mg_nameSign, mr_nameSign, mw_nameSign, mg_nameSize, mr_nameSize, mw_nameSize, mg_label, mr_label, mw_label, mg_isContrary, mp_isContrary, mg_text, mr_text, mw_text, mg_textSize, mp_textSize, mg_at, mp_at, mg_token, mp_token, mg_tokenAt, mp_tokenAt, mg_tokenSize, mp_tokenSize, mg_scanned, mp_scanned, mg_fault, mp_fault, mg_faultAt, mp_faultAt, mg_place, mp_place, mg_open, mp_open, mg_level, mr_level, mw_level, mg_stage, mr_stage, mw_stage, mg_held, mr_held, mw_held, mg_signPlace, mr_signPlace, mw_signPlace, mg_value, mp_value, mg_row, mr_row, mw_row, mg_contrary, mr_contrary, mw_contrary, mg_firstRow, mr_firstRow, mw_firstRow, mg_firstContrary, mr_firstContrary, mw_firstContrary, mg_depthOf, mr_depthOf, mw_depthOf, mg_phase, mr_phase, mw_phase, mg_tried, mr_tried, mw_tried, mg_before, mr_before, mw_before, mg_old, mr_old, mw_old, mg_steps, mp_steps, mg_mostSteps, mp_mostSteps, mg_rounds, mp_rounds, mg_passes, mp_passes, mg_branches, mp_branches, mg_worth, mr_worth, mw_worth, md_fi_1, h1, nL_2, nI_leI, hlt, xo_in, nI_clamp, nI_1]
    rw [e_Md_alone_22, md_fi_s σ 8 nI (Nat.zero_le v) rfl]
    exact hih
theorem c_alone {n : Nat} (h1 : σ.1 3 = nI n) (hn : n ≤ 120) : ev_C X d m_Md_alone [.ref B] (md_put B σ g) Q ↔ Q none (md_put B (md_si (md_fi σ 8 nI 0 (2 * n)) 9 0) g) := by
  show ev_R X d m_Md_alone 0 [some (.ref B), none] [] (md_put B σ g) Q ↔ _
  have hl := c_alone_loop (X := X) (d := d) (B := B) (g := g) (Q := Q) h1 hn (2 * n) 0 (by omega)
  rw [md_fi_0] at hl
  simp (disch := first | exact ev_ok_i _ | exact ev_ok_r _ | exact ev_ok_n | omega | assumption) only [e_Md_alone_0, e_Md_alone_1, ev_rm_n, ev_rm_i, ev_rm_r, ev_rm_l, ev_ok_n, ev_ok_i, ev_ok_r, Option.toList_some, Option.toList_none, List.cons_append, List.nil_append, true_and, and_true, true_or, or_true, reduceIte, Nat.reduceEqDiff, if_true, if_false]
  exact hl
theorem c_told3_loop {n : Nat} (h1 : σ.1 3 = nI n) (hn : n ≤ 120) (hz : σ.1 9 = 0 ∨ σ.1 9 = 1) {lb : Nat → Nat} (hb : ∀ l, l < 2 * n → σ.2 8 l = nI (lb l) ∧ lb l < 2 ^ 31) : ∀ (m v c : Nat), v + m = 2 * n → c ≤ v → (ev_R X d m_Md_told3 4 [some (.ref B), some (.int (nI c)), some (.int (nI v))] [] (md_put B σ g) Q ↔ Q (some (.int (if σ.1 9 = 0 then nI (c + sp_ct (fun l => lb l == l) v m) else -3))) (md_put B σ g)) := by
  intro m
  induction m with
  | zero =>
    intro v c hv hc
    have e : v = 2 * n := by omega
    subst e
    simp (disch := first | exact ev_ok_i _ | exact ev_ok_r _ | exact ev_ok_n | omega | assumption) only [e_Md_told3_4, e_Md_told3_5, e_Md_told3_6, e_Md_told3_7, e_Md_told3_10, e_Md_told3_11, e_Md_told3_38, e_Md_told3_39, e_Md_told3_42, e_Md_told3_45, e_Md_told3_47, e_Md_told3_50, e_Md_told3_51, ev_rm_n, ev_rm_i, ev_rm_r, ev_rm_l, ev_ok_n, ev_ok_i, ev_ok_r, Option.toList_some, Option.toList_none, List.cons_append, List.nil_append, true_and, and_true, true_or, or_true, reduceIte, Nat.reduceEqDiff, if_true, if_false, md_rc, md_si_1, md_si_2, md_sa_1, md_sa_2, mg_kind, mr_kind, mw_kind, mg_one, mr_one, mw_one, mg_two, mr_two, mw_two, mg_variables, mp_variables, mg_inputs, mp_inputs, mg_inputOf, mr_inputOf, mw_inputOf, mg_nameSign, mr_nameSign, mw_nameSign, mg_nameSize, mr_nameSize, mw_nameSize, mg_label, mr_label, mw_label, mg_isContrary, mp_isContrary, mg_text, mr_text, mw_text, mg_textSize, mp_textSize, mg_at, mp_at, mg_token, mp_token, mg_tokenAt, mp_tokenAt, mg_tokenSize, mp_tokenSize, mg_scanned, mp_scanned, mg_fault, mp_fault, mg_faultAt, mp_faultAt, mg_place, mp_place, mg_open, mp_open, mg_level, mr_level, mw_level, mg_stage, mr_stage, mw_stage, mg_held, mr_held, mw_held, mg_signPlace, mr_signPlace, mw_signPlace, mg_value, mp_value, mg_row, mr_row, mw_row, mg_contrary, mr_contrary, mw_contrary, mg_firstRow, mr_firstRow, mw_firstRow, mg_firstContrary, mr_firstContrary, mw_firstContrary, mg_depthOf, mr_depthOf, mw_depthOf, mg_phase, mr_phase, mw_phase, mg_tried, mr_tried, mw_tried, mg_before, mr_before, mw_before, mg_old, mr_old, mw_old, mg_steps, mp_steps, mg_mostSteps, mp_mostSteps, mg_rounds, mp_rounds, mg_passes, mp_passes, mg_branches, mp_branches, mg_worth, mr_worth, mw_worth, h1, nL_2, nI_leI, Nat.le_refl, sp_ct, Nat.add_zero]
    rcases hz with h | h <;> simp [h]
  | succ m ih =>
    intro v c hv hc
    obtain ⟨q1, q2⟩ := hb v (by omega)
    have hlt : ¬ 2 * n ≤ v := by omega
    have i1 := ih (v + 1) (c + 1) (by omega) (by omega)
    have i0 := ih (v + 1) c (by omega) (by omega)
    simp (disch := first | exact ev_ok_i _ | exact ev_ok_r _ | exact ev_ok_n | omega | assumption) only [e_Md_told3_4, e_Md_told3_5, e_Md_told3_6, e_Md_told3_7, e_Md_told3_10, e_Md_told3_11, e_Md_told3_14, e_Md_told3_15, e_Md_told3_16, e_Md_told3_19, e_Md_told3_20, e_Md_told3_21, e_Md_told3_22, e_Md_told3_25, e_Md_told3_26, e_Md_told3_29, e_Md_told3_30, e_Md_told3_31, e_Md_told3_32, ev_rm_n, ev_rm_i, ev_rm_r, ev_rm_l, ev_ok_n, ev_ok_i, ev_ok_r, Option.toList_some, Option.toList_none, List.cons_append, List.nil_append, true_and, and_true, true_or, or_true, reduceIte, Nat.reduceEqDiff, if_true, if_false, md_rc, md_si_1, md_si_2, md_sa_1, md_sa_2, mg_kind, mr_kind, mw_kind, mg_one, mr_one, mw_one, mg_two, mr_two, mw_two, mg_variables, mp_variables, mg_inputs, mp_inputs, mg_inputOf, mr_inputOf, mw_inputOf, mg_nameSign, mr_nameSign, mw_nameSign, mg_nameSize, mr_nameSize, mw_nameSize, mg_label, mr_label, mw_label, mg_isContrary, mp_isContrary, mg_text, mr_text, mw_text, mg_textSize, mp_textSize, mg_at, mp_at, mg_token, mp_token, mg_tokenAt, mp_tokenAt, mg_tokenSize, mp_tokenSize, mg_scanned, mp_scanned, mg_fault, mp_fault, mg_faultAt, mp_faultAt, mg_place, mp_place, mg_open, mp_open, mg_level, mr_level, mw_level, mg_stage, mr_stage, mw_stage, mg_held, mr_held, mw_held, mg_signPlace, mr_signPlace, mw_signPlace, mg_value, mp_value, mg_row, mr_row, mw_row, mg_contrary, mr_contrary, mw_contrary, mg_firstRow, mr_firstRow, mw_firstRow, mg_firstContrary, mr_firstContrary, mw_firstContrary, mg_depthOf, mr_depthOf, mw_depthOf, mg_phase, mr_phase, mw_phase, mg_tried, mr_tried, mw_tried, mg_before, mr_before, mw_before, mg_old, mr_old, mw_old, mg_steps, mp_steps, mg_mostSteps, mp_mostSteps, mg_rounds, mp_rounds, mg_passes, mp_passes, mg_branches, mp_branches, mg_worth, mr_worth, mw_worth, h1, nL_2, nI_leI, hlt, xo_in, nI_clamp, q1, nI_eq, nI_1, sp_ct]
    by_cases a1 : lb v = v
    · simp only [a1, not_true_eq_false, if_false, beq_self_eq_true, if_true]
      rw [e_Md_told3_35, i1]
      rw [show c + 1 + sp_ct (fun l => lb l == l) (v + 1) m = c + (1 + sp_ct (fun l => lb l == l) (v + 1) m) by omega]
    · have a2 : (lb v == v) = false := by simp [a1]
      simp only [a1, not_false_eq_true, if_true, a2]
      rw [e_Md_told3_35, nL_a0, i0]
      simp
theorem c_told3 {n : Nat} (h1 : σ.1 3 = nI n) (hn : n ≤ 120) (hz : σ.1 9 = 0 ∨ σ.1 9 = 1) {lb : Nat → Nat} (hb : ∀ l, l < 2 * n → σ.2 8 l = nI (lb l) ∧ lb l < 2 ^ 31) : ev_C X d m_Md_told3 [.ref B] (md_put B σ g) Q ↔ Q (some (.int (if σ.1 9 = 0 then nI (sp_ct (fun l => lb l == l) 0 (2 * n)) else -3))) (md_put B σ g) := by
  show ev_R X d m_Md_told3 0 [some (.ref B), none, none] [] (md_put B σ g) Q ↔ _
  have hl := c_told3_loop (X := X) (d := d) (B := B) (g := g) (Q := Q) h1 hn hz hb (2 * n) 0 0 (by omega) (Nat.le_refl 0)
  rw [Nat.zero_add] at hl
  simp (disch := first | exact ev_ok_i _ | exact ev_ok_r _ | exact ev_ok_n | omega | assumption) only [e_Md_told3_0, e_Md_told3_1, e_Md_told3_2, e_Md_told3_3, ev_rm_n, ev_rm_i, ev_rm_r, ev_rm_l, ev_ok_n, ev_ok_i, ev_ok_r, Option.toList_some, Option.toList_none, List.cons_append, List.nil_append, true_and, and_true, true_or, or_true, reduceIte, Nat.reduceEqDiff, if_true, if_false]
  exact hl
/-- row f of the reference's rows -/
theorem c_take_loop {n : Nat} (h1 : σ.1 3 = nI n) (hn : n ≤ 120) : ∀ (m v : Nat), v + m = 2 * n → (ev_R X d m_Md_take 2 [some (.ref B), some (.int (nI v))] [] (md_put B (md_fi σ 26 (σ.2 8) 0 v) g) Q ↔ Q none (md_put B (md_sa (md_fi σ 26 (σ.2 8) 0 (2 * n)) 27 0 (vp_nar .boolean (σ.1 9))) g)) := by
  intro m
  induction m with
  | zero =>
    intro v hv
    have e : v = 2 * n := by omega
    subst e
    simp (disch := first | exact ev_ok_i _ | exact ev_ok_r _ | exact ev_ok_n | omega | assumption) only [e_Md_take_2, e_Md_take_3, e_Md_take_4, e_Md_take_5, e_Md_take_8, e_Md_take_9, e_Md_take_30, e_Md_take_31, e_Md_take_34, e_Md_take_35, e_Md_take_36, e_Md_take_39, e_Md_take_40, ev_rm_n, ev_rm_i, ev_rm_r, ev_rm_l, ev_ok_n, ev_ok_i, ev_ok_r, Option.toList_some, Option.toList_none, List.cons_append, List.nil_append, true_and, and_true, true_or, or_true, reduceIte, Nat.reduceEqDiff, if_true, if_false, md_rc, md_si_1, md_si_2, md_sa_1, md_sa_2, mg_kind, mr_kind, mw_kind, mg_one, mr_one, mw_one, mg_two, mr_two, mw_two, mg_variables, mp_variables, mg_inputs, mp_inputs, mg_inputOf, mr_inputOf, mw_inputOf, mg_nameSign, mr_nameSign, mw_nameSign, mg_nameSize, mr_nameSize, mw_nameSize, mg_label, mr_label, mw_label, mg_isContrary, mp_isContrary, mg_text, mr_text, mw_text, mg_textSize, mp_textSize, mg_at, mp_at, mg_token, mp_token, mg_tokenAt, mp_tokenAt, mg_tokenSize, mp_tokenSize, mg_scanned, mp_scanned, mg_fault, mp_fault, mg_faultAt, mp_faultAt, mg_place, mp_place, mg_open, mp_open, mg_level, mr_level, mw_level, mg_stage, mr_stage, mw_stage, mg_held, mr_held, mw_held, mg_signPlace, mr_signPlace, mw_signPlace, mg_value, mp_value, mg_row, mr_row, mw_row, mg_contrary, mr_contrary, mw_contrary, mg_firstRow, mr_firstRow, mw_firstRow, mg_firstContrary, mr_firstContrary, mw_firstContrary, mg_depthOf, mr_depthOf, mw_depthOf, mg_phase, mr_phase, mw_phase, mg_tried, mr_tried, mw_tried, mg_before, mr_before, mw_before, mg_old, mr_old, mw_old, mg_steps, mp_steps, mg_mostSteps, mp_mostSteps, mg_rounds, mp_rounds, mg_passes, mp_passes, mg_branches, mp_branches, mg_worth, mr_worth, mw_worth, md_fi_1, h1, nL_2, nI_leI, Nat.le_refl, xo_o0, sb_cl0]
  | succ m ih =>
    intro v hv
    have hih := ih (v + 1) (by omega)
    have hlt : ¬ 2 * n ≤ v := by omega
    simp (disch := first | exact ev_ok_i _ | exact ev_ok_r _ | exact ev_ok_n | omega | assumption) only [e_Md_take_2, e_Md_take_3, e_Md_take_4, e_Md_take_5, e_Md_take_8, e_Md_take_9, e_Md_take_12, e_Md_take_13, e_Md_take_16, e_Md_take_17, e_Md_take_18, e_Md_take_21, e_Md_take_22, e_Md_take_23, e_Md_take_24, ev_rm_n, ev_rm_i, ev_rm_r, ev_rm_l, ev_ok_n, ev_ok_i, ev_ok_r, Option.toList_some, Option.toList_none, List.cons_append, List.nil_append, true_and, and_true, true_or, or_true, reduceIte, Nat.reduceEqDiff, if_true, if_false, md_rc, md_si_1, md_si_2, md_sa_1, md_sa_2, mg_kind, mr_kind, mw_kind, mg_one, mr_one, mw_one, mg_two, mr_two, mw_two, mg_variables, mp_variables, mg_inputs, mp_inputs, mg_inputOf, mr_inputOf, mw_inputOf, mg_nameSign, mr_nameSign, mw_nameSign, mg_nameSize, mr_nameSize, mw_nameSize, mg_label, mr_label, mw_label, mg_isContrary, mp_isContrary, mg_text, mr_text, mw_text, mg_textSize, mp_textSize, mg_at, mp_at, mg_token, mp_token, mg_tokenAt, mp_tokenAt, mg_tokenSize, mp_tokenSize, mg_scanned, mp_scanned, mg_fault, mp_fault, mg_faultAt, mp_faultAt, mg_place, mp_place, mg_open, mp_open, mg_level, mr_level, mw_level, mg_stage, mr_stage, mw_stage, mg_held, mr_held, mw_held, mg_signPlace, mr_signPlace, mw_signPlace, mg_value, mp_value, mg_row, mr_row, mw_row, mg_contrary, mr_contrary, mw_contrary, mg_firstRow, mr_firstRow, mw_firstRow, mg_firstContrary, mr_firstContrary, mw_firstContrary, mg_depthOf, mr_depthOf, mw_depthOf, mg_phase, mr_phase, mw_phase, mg_tried, mr_tried, mw_tried, mg_before, mr_before, mw_before, mg_old, mr_old, mw_old, mg_steps, mp_steps, mg_mostSteps, mp_mostSteps, mg_rounds, mp_rounds, mg_passes, mp_passes, mg_branches, mp_branches, mg_worth, mr_worth, mw_worth, md_fi_1, md_fi_2, h1, nL_2, nI_leI, hlt, xo_in, nI_clamp, nI_1]
    rw [e_Md_take_27, md_fi_s σ 26 (σ.2 8) (Nat.zero_le v) rfl]
    exact hih
theorem c_take {n : Nat} (h1 : σ.1 3 = nI n) (hn : n ≤ 120) : ev_C X d m_Md_take [.ref B] (md_put B σ g) Q ↔ Q none (md_put B (md_sa (md_fi σ 26 (σ.2 8) 0 (2 * n)) 27 0 (vp_nar .boolean (σ.1 9))) g) := by
  show ev_R X d m_Md_take 0 [some (.ref B), none] [] (md_put B σ g) Q ↔ _
  have hl := c_take_loop (X := X) (d := d) (B := B) (g := g) (Q := Q) h1 hn (2 * n) 0 (by omega)
  rw [md_fi_0] at hl
  simp (disch := first | exact ev_ok_i _ | exact ev_ok_r _ | exact ev_ok_n | omega | assumption) only [e_Md_take_0, e_Md_take_1, ev_rm_n, ev_rm_i, ev_rm_r, ev_rm_l, ev_ok_n, ev_ok_i, ev_ok_r, Option.toList_some, Option.toList_none, List.cons_append, List.nil_append, true_and, and_true, true_or, or_true, reduceIte, Nat.reduceEqDiff, if_true, if_false]
  exact hl
theorem c_back_loop {n : Nat} (h1 : σ.1 3 = nI n) (hn : n ≤ 120) (hz : σ.2 27 0 = 0 ∨ σ.2 27 0 = 1) : ∀ (m v : Nat), v + m = 2 * n → (ev_R X d m_Md_back 2 [some (.ref B), some (.int (nI v))] [] (md_put B (md_fi σ 8 (σ.2 26) 0 v) g) Q ↔ Q none (md_put B (md_si (md_fi σ 8 (σ.2 26) 0 (2 * n)) 9 (σ.2 27 0)) g)) := by
  intro m
  induction m with
  | zero =>
    intro v hv
    have e : v = 2 * n := by omega
    subst e
    simp (disch := first | exact ev_ok_i _ | exact ev_ok_r _ | exact ev_ok_n | omega | assumption) only [e_Md_back_2, e_Md_back_3, e_Md_back_4, e_Md_back_5, e_Md_back_8, e_Md_back_9, e_Md_back_30, e_Md_back_31, e_Md_back_32, e_Md_back_35, e_Md_back_36, e_Md_back_37, e_Md_back_40, ev_rm_n, ev_rm_i, ev_rm_r, ev_rm_l, ev_ok_n, ev_ok_i, ev_ok_r, Option.toList_some, Option.toList_none, List.cons_append, List.nil_append, true_and, and_true, true_or, or_true, reduceIte, Nat.reduceEqDiff, if_true, if_false, md_rc, md_si_1, md_si_2, md_sa_1, md_sa_2, mg_kind, mr_kind, mw_kind, mg_one, mr_one, mw_one, mg_two, mr_two, mw_two, mg_variables, mp_variables, mg_inputs, mp_inputs, mg_inputOf, mr_inputOf, mw_inputOf, mg_nameSign, mr_nameSign, mw_nameSign, mg_nameSize, mr_nameSize, mw_nameSize, mg_label, mr_label, mw_label, mg_isContrary, mp_isContrary, mg_text, mr_text, mw_text, mg_textSize, mp_textSize, mg_at, mp_at, mg_token, mp_token, mg_tokenAt, mp_tokenAt, mg_tokenSize, mp_tokenSize, mg_scanned, mp_scanned, mg_fault, mp_fault, mg_faultAt, mp_faultAt, mg_place, mp_place, mg_open, mp_open, mg_level, mr_level, mw_level, mg_stage, mr_stage, mw_stage, mg_held, mr_held, mw_held, mg_signPlace, mr_signPlace, mw_signPlace, mg_value, mp_value, mg_row, mr_row, mw_row, mg_contrary, mr_contrary, mw_contrary, mg_firstRow, mr_firstRow, mw_firstRow, mg_firstContrary, mr_firstContrary, mw_firstContrary, mg_depthOf, mr_depthOf, mw_depthOf, mg_phase, mr_phase, mw_phase, mg_tried, mr_tried, mw_tried, mg_before, mr_before, mw_before, mg_old, mr_old, mw_old, mg_steps, mp_steps, mg_mostSteps, mp_mostSteps, mg_rounds, mp_rounds, mg_passes, mp_passes, mg_branches, mp_branches, mg_worth, mr_worth, mw_worth, md_fi_1, md_fi_2, h1, nL_2, nI_leI, Nat.le_refl, xo_o0, sb_cl0, hz]
  | succ m ih =>
    intro v hv
    have hih := ih (v + 1) (by omega)
    have hlt : ¬ 2 * n ≤ v := by omega
    simp (disch := first | exact ev_ok_i _ | exact ev_ok_r _ | exact ev_ok_n | omega | assumption) only [e_Md_back_2, e_Md_back_3, e_Md_back_4, e_Md_back_5, e_Md_back_8, e_Md_back_9, e_Md_back_12, e_Md_back_13, e_Md_back_16, e_Md_back_17, e_Md_back_18, e_Md_back_21, e_Md_back_22, e_Md_back_23, e_Md_back_24, ev_rm_n, ev_rm_i, ev_rm_r, ev_rm_l, ev_ok_n, ev_ok_i, ev_ok_r, Option.toList_some, Option.toList_none, List.cons_append, List.nil_append, true_and, and_true, true_or, or_true, reduceIte, Nat.reduceEqDiff, if_true, if_false, md_rc, md_si_1, md_si_2, md_sa_1, md_sa_2, mg_kind, mr_kind, mw_kind, mg_one, mr_one, mw_one, mg_two, mr_two, mw_two, mg_variables, mp_variables, mg_inputs, mp_inputs, mg_inputOf, mr_inputOf, mw_inputOf, mg_nameSign, mr_nameSign, mw_nameSign, mg_nameSize, mr_nameSize, mw_nameSize, mg_label, mr_label, mw_label, mg_isContrary, mp_isContrary, mg_text, mr_text, mw_text, mg_textSize, mp_textSize, mg_at, mp_at, mg_token, mp_token, mg_tokenAt, mp_tokenAt, mg_tokenSize, mp_tokenSize, mg_scanned, mp_scanned, mg_fault, mp_fault, mg_faultAt, mp_faultAt, mg_place, mp_place, mg_open, mp_open, mg_level, mr_level, mw_level, mg_stage, mr_stage, mw_stage, mg_held, mr_held, mw_held, mg_signPlace, mr_signPlace, mw_signPlace, mg_value, mp_value, mg_row, mr_row, mw_row, mg_contrary, mr_contrary, mw_contrary, mg_firstRow, mr_firstRow, mw_firstRow, mg_firstContrary, mr_firstContrary, mw_firstContrary, mg_depthOf, mr_depthOf, mw_depthOf, mg_phase, mr_phase, mw_phase, mg_tried, mr_tried, mw_tried, mg_before, mr_before, mw_before, mg_old, mr_old, mw_old, mg_steps, mp_steps, mg_mostSteps, mp_mostSteps, mg_rounds, mp_rounds, mg_passes, mp_passes, mg_branches, mp_branches, mg_worth, mr_worth, mw_worth, md_fi_1, md_fi_2, h1, nL_2, nI_leI, hlt, xo_in, nI_clamp, nI_1]
    rw [e_Md_back_27, md_fi_s σ 8 (σ.2 26) (Nat.zero_le v) rfl]
    exact hih
theorem c_back {n : Nat} (h1 : σ.1 3 = nI n) (hn : n ≤ 120) (hz : σ.2 27 0 = 0 ∨ σ.2 27 0 = 1) : ev_C X d m_Md_back [.ref B] (md_put B σ g) Q ↔ Q none (md_put B (md_si (md_fi σ 8 (σ.2 26) 0 (2 * n)) 9 (σ.2 27 0)) g) := by
  show ev_R X d m_Md_back 0 [some (.ref B), none] [] (md_put B σ g) Q ↔ _
  have hl := c_back_loop (X := X) (d := d) (B := B) (g := g) (Q := Q) h1 hn hz (2 * n) 0 (by omega)
  rw [md_fi_0] at hl
  simp (disch := first | exact ev_ok_i _ | exact ev_ok_r _ | exact ev_ok_n | omega | assumption) only [e_Md_back_0, e_Md_back_1, ev_rm_n, ev_rm_i, ev_rm_r, ev_rm_l, ev_ok_n, ev_ok_i, ev_ok_r, Option.toList_some, Option.toList_none, List.cons_append, List.nil_append, true_and, and_true, true_or, or_true, reduceIte, Nat.reduceEqDiff, if_true, if_false]
  exact hl
/-- the row t gets row f's labels -/
def md_cr (σ : md_S) (n f t v : Nat) : md_S := md_fi σ 26 (fun j => σ.2 26 (240 * f + (j - 240 * t))) (240 * t) (240 * t + v)
theorem md_cr_at (σ : md_S) {n f t v : Nat} (hn : n ≤ 120) (hft : ¬ f = t) (hv : v < 2 * n) : (md_cr σ n f t v).2 26 (240 * f + v) = σ.2 26 (240 * f + v) := by
  unfold md_cr
  rw [md_fi_2, if_pos rfl]
  rw [if_neg]
  rintro ⟨h1, h2⟩
  rcases Nat.lt_or_gt_of_ne hft with h | h
  · have := Nat.mul_le_mul_left 240 (Nat.succ_le_of_lt h)
    omega
  · have := Nat.mul_le_mul_left 240 (Nat.succ_le_of_lt h)
    omega
theorem c_copyRow_loop {n f t : Nat} (h1 : σ.1 3 = nI n) (hn : n ≤ 120) (hf : f < 6) (ht : t < 6) (hft : ¬ f = t) : ∀ (m v : Nat), v + m = 2 * n → (ev_R X d m_Md_copyRow 2 [some (.ref B), some (.int (nI f)), some (.int (nI t)), some (.int (nI v))] [] (md_put B (md_cr σ n f t v) g) Q ↔ Q none (md_put B (md_sa (md_cr σ n f t (2 * n)) 27 t (vp_nar .boolean (σ.2 27 f))) g)) := by
  intro m
  have k1 : ∀ v, (md_cr σ n f t v).1 = σ.1 := fun _ => rfl
  have k2 : ∀ v, (md_cr σ n f t v).2 27 = σ.2 27 := fun _ => rfl
  induction m with
  | zero =>
    intro v hv
    have e : v = 2 * n := by omega
    subst e
    simp (disch := first | exact ev_ok_i _ | exact ev_ok_r _ | exact ev_ok_n | omega | assumption) only [e_Md_copyRow_2, e_Md_copyRow_3, e_Md_copyRow_4, e_Md_copyRow_5, e_Md_copyRow_8, e_Md_copyRow_9, e_Md_copyRow_42, e_Md_copyRow_43, e_Md_copyRow_46, e_Md_copyRow_47, e_Md_copyRow_48, e_Md_copyRow_51, e_Md_copyRow_52, e_Md_copyRow_53, e_Md_copyRow_54, ev_rm_n, ev_rm_i, ev_rm_r, ev_rm_l, ev_ok_n, ev_ok_i, ev_ok_r, Option.toList_some, Option.toList_none, List.cons_append, List.nil_append, true_and, and_true, true_or, or_true, reduceIte, Nat.reduceEqDiff, if_true, if_false, md_rc, md_si_1, md_si_2, md_sa_1, md_sa_2, mg_kind, mr_kind, mw_kind, mg_one, mr_one, mw_one, mg_two, mr_two, mw_two, mg_variables, mp_variables, mg_inputs, mp_inputs, mg_inputOf, mr_inputOf, mw_inputOf, mg_nameSign, mr_nameSign, mw_nameSign, mg_nameSize, mr_nameSize, mw_nameSize, mg_label, mr_label, mw_label, mg_isContrary, mp_isContrary, mg_text, mr_text, mw_text, mg_textSize, mp_textSize, mg_at, mp_at, mg_token, mp_token, mg_tokenAt, mp_tokenAt, mg_tokenSize, mp_tokenSize, mg_scanned, mp_scanned, mg_fault, mp_fault, mg_faultAt, mp_faultAt, mg_place, mp_place, mg_open, mp_open, mg_level, mr_level, mw_level, mg_stage, mr_stage, mw_stage, mg_held, mr_held, mw_held, mg_signPlace, mr_signPlace, mw_signPlace, mg_value, mp_value, mg_row, mr_row, mw_row, mg_contrary, mr_contrary, mw_contrary, mg_firstRow, mr_firstRow, mw_firstRow, mg_firstContrary, mr_firstContrary, mw_firstContrary, mg_depthOf, mr_depthOf, mw_depthOf, mg_phase, mr_phase, mw_phase, mg_tried, mr_tried, mw_tried, mg_before, mr_before, mw_before, mg_old, mr_old, mw_old, mg_steps, mp_steps, mg_mostSteps, mp_mostSteps, mg_rounds, mp_rounds, mg_passes, mp_passes, mg_branches, mp_branches, mg_worth, mr_worth, mw_worth, k1, k2, h1, nL_2, nI_leI, Nat.le_refl, xo_in, nI_clamp]
  | succ m ih =>
    intro v hv
    have hih := ih (v + 1) (by omega)
    have hlt : ¬ 2 * n ≤ v := by omega
    simp (disch := first | exact ev_ok_i _ | exact ev_ok_r _ | exact ev_ok_n | omega | assumption) only [e_Md_copyRow_2, e_Md_copyRow_3, e_Md_copyRow_4, e_Md_copyRow_5, e_Md_copyRow_8, e_Md_copyRow_9, e_Md_copyRow_12, e_Md_copyRow_13, e_Md_copyRow_16, e_Md_copyRow_19, e_Md_copyRow_20, e_Md_copyRow_21, e_Md_copyRow_22, e_Md_copyRow_23, e_Md_copyRow_24, e_Md_copyRow_27, e_Md_copyRow_30, e_Md_copyRow_31, e_Md_copyRow_32, e_Md_copyRow_33, e_Md_copyRow_34, e_Md_copyRow_35, e_Md_copyRow_36, ev_rm_n, ev_rm_i, ev_rm_r, ev_rm_l, ev_ok_n, ev_ok_i, ev_ok_r, Option.toList_some, Option.toList_none, List.cons_append, List.nil_append, true_and, and_true, true_or, or_true, reduceIte, Nat.reduceEqDiff, if_true, if_false, md_rc, md_si_1, md_si_2, md_sa_1, md_sa_2, mg_kind, mr_kind, mw_kind, mg_one, mr_one, mw_one, mg_two, mr_two, mw_two, mg_variables, mp_variables, mg_inputs, mp_inputs, mg_inputOf, mr_inputOf, mw_inputOf, mg_nameSign, mr_nameSign, mw_nameSign, mg_nameSize, mr_nameSize, mw_nameSize, mg_label, mr_label, mw_label, mg_isContrary, mp_isContrary, mg_text, mr_text, mw_text, mg_textSize, mp_textSize, mg_at, mp_at, mg_token, mp_token, mg_tokenAt, mp_tokenAt, mg_tokenSize, mp_tokenSize, mg_scanned, mp_scanned, mg_fault, mp_fault, mg_faultAt, mp_faultAt, mg_place, mp_place, mg_open, mp_open, mg_level, mr_level, mw_level, mg_stage, mr_stage, mw_stage, mg_held, mr_held, mw_held, mg_signPlace, mr_signPlace, mw_signPlace, mg_value, mp_value, mg_row, mr_row, mw_row, mg_contrary, mr_contrary, mw_contrary, mg_firstRow, mr_firstRow, mw_firstRow, mg_firstContrary, mr_firstContrary, mw_firstContrary, mg_depthOf, mr_depthOf, mw_depthOf, mg_phase, mr_phase, mw_phase, mg_tried, mr_tried, mw_tried, mg_before, mr_before, mw_before, mg_old, mr_old, mw_old, mg_steps, mp_steps, mg_mostSteps, mp_mostSteps, mg_rounds, mp_rounds, mg_passes, mp_passes, mg_branches, mp_branches, mg_worth, mr_worth, mw_worth, k1, h1, nL_2, nL_240, nI_add, nI_leI, hlt, xo_in, nI_clamp, nI_1]
    rw [e_Md_copyRow_39, md_cr_at σ hn hft (by omega)]
    unfold md_cr at hih ⊢
    rw [md_fi_s σ 26 _ (Nat.le_add_right _ _) (by rw [Nat.add_sub_cancel_left])]
    exact hih
theorem c_copyRow {n f t : Nat} (h1 : σ.1 3 = nI n) (hn : n ≤ 120) (hf : f < 6) (ht : t < 6) (hft : ¬ f = t) : ev_C X d m_Md_copyRow [.ref B, .int (nI f), .int (nI t)] (md_put B σ g) Q ↔ Q none (md_put B (md_sa (md_cr σ n f t (2 * n)) 27 t (vp_nar .boolean (σ.2 27 f))) g) := by
  show ev_R X d m_Md_copyRow 0 [some (.ref B), some (.int (nI f)), some (.int (nI t)), none] [] (md_put B σ g) Q ↔ _
  have hl := c_copyRow_loop (X := X) (d := d) (B := B) (g := g) (Q := Q) h1 hn hf ht hft (2 * n) 0 (by omega)
  unfold md_cr at hl ⊢
  rw [Nat.add_zero, md_fi_0] at hl
  simp (disch := first | exact ev_ok_i _ | exact ev_ok_r _ | exact ev_ok_n | omega | assumption) only [e_Md_copyRow_0, e_Md_copyRow_1, ev_rm_n, ev_rm_i, ev_rm_r, ev_rm_l, ev_ok_n, ev_ok_i, ev_ok_r, Option.toList_some, Option.toList_none, List.cons_append, List.nil_append, true_and, and_true, true_or, or_true, reduceIte, Nat.reduceEqDiff, if_true, if_false]
  exact hl
theorem c_classes_loop {n f : Nat} (h1 : σ.1 3 = nI n) (hn : n ≤ 120) (hf : f < 6) {lb : Nat → Nat} (hb : ∀ l, l < 2 * n → σ.2 26 (240 * f + l) = nI (lb l) ∧ lb l < 2 ^ 31) : ∀ (m v c : Nat), v + m = 2 * n → c ≤ v → (ev_R X d m_Md_classes 4 [some (.ref B), some (.int (nI f)), some (.int (nI c)), some (.int (nI v))] [] (md_put B σ g) Q ↔ Q (some (.int (nI (c + sp_ct (fun l => lb l == l) v m)))) (md_put B σ g)) := by
  intro m
  induction m with
  | zero =>
    intro v c hv hc
    have e : v = 2 * n := by omega
    subst e
    simp (disch := first | exact ev_ok_i _ | exact ev_ok_r _ | exact ev_ok_n | omega | assumption) only [e_Md_classes_4, e_Md_classes_5, e_Md_classes_6, e_Md_classes_7, e_Md_classes_10, e_Md_classes_11, e_Md_classes_44, e_Md_classes_45, ev_rm_n, ev_rm_i, ev_rm_r, ev_rm_l, ev_ok_n, ev_ok_i, ev_ok_r, Option.toList_some, Option.toList_none, List.cons_append, List.nil_append, true_and, and_true, true_or, or_true, reduceIte, Nat.reduceEqDiff, if_true, if_false, md_rc, md_si_1, md_si_2, md_sa_1, md_sa_2, mg_kind, mr_kind, mw_kind, mg_one, mr_one, mw_one, mg_two, mr_two, mw_two, mg_variables, mp_variables, mg_inputs, mp_inputs, mg_inputOf, mr_inputOf, mw_inputOf, mg_nameSign, mr_nameSign, mw_nameSign, mg_nameSize, mr_nameSize, mw_nameSize, mg_label, mr_label, mw_label, mg_isContrary, mp_isContrary, mg_text, mr_text, mw_text, mg_textSize, mp_textSize, mg_at, mp_at, mg_token, mp_token, mg_tokenAt, mp_tokenAt, mg_tokenSize, mp_tokenSize, mg_scanned, mp_scanned, mg_fault, mp_fault, mg_faultAt, mp_faultAt, mg_place, mp_place, mg_open, mp_open, mg_level, mr_level, mw_level, mg_stage, mr_stage, mw_stage, mg_held, mr_held, mw_held, mg_signPlace, mr_signPlace, mw_signPlace, mg_value, mp_value, mg_row, mr_row, mw_row, mg_contrary, mr_contrary, mw_contrary, mg_firstRow, mr_firstRow, mw_firstRow, mg_firstContrary, mr_firstContrary, mw_firstContrary, mg_depthOf, mr_depthOf, mw_depthOf, mg_phase, mr_phase, mw_phase, mg_tried, mr_tried, mw_tried, mg_before, mr_before, mw_before, mg_old, mr_old, mw_old, mg_steps, mp_steps, mg_mostSteps, mp_mostSteps, mg_rounds, mp_rounds, mg_passes, mp_passes, mg_branches, mp_branches, mg_worth, mr_worth, mw_worth, h1, nL_2, nI_leI, Nat.le_refl, sp_ct, Nat.add_zero]
  | succ m ih =>
    intro v c hv hc
    obtain ⟨q1, q2⟩ := hb v (by omega)
    have hlt : ¬ 2 * n ≤ v := by omega
    have i1 := ih (v + 1) (c + 1) (by omega) (by omega)
    have i0 := ih (v + 1) c (by omega) (by omega)
    simp (disch := first | exact ev_ok_i _ | exact ev_ok_r _ | exact ev_ok_n | omega | assumption) only [e_Md_classes_4, e_Md_classes_5, e_Md_classes_6, e_Md_classes_7, e_Md_classes_10, e_Md_classes_11, e_Md_classes_14, e_Md_classes_15, e_Md_classes_16, e_Md_classes_19, e_Md_classes_22, e_Md_classes_23, e_Md_classes_24, e_Md_classes_25, e_Md_classes_26, e_Md_classes_27, e_Md_classes_28, e_Md_classes_31, e_Md_classes_32, e_Md_classes_35, e_Md_classes_36, e_Md_classes_37, e_Md_classes_38, ev_rm_n, ev_rm_i, ev_rm_r, ev_rm_l, ev_ok_n, ev_ok_i, ev_ok_r, Option.toList_some, Option.toList_none, List.cons_append, List.nil_append, true_and, and_true, true_or, or_true, reduceIte, Nat.reduceEqDiff, if_true, if_false, md_rc, md_si_1, md_si_2, md_sa_1, md_sa_2, mg_kind, mr_kind, mw_kind, mg_one, mr_one, mw_one, mg_two, mr_two, mw_two, mg_variables, mp_variables, mg_inputs, mp_inputs, mg_inputOf, mr_inputOf, mw_inputOf, mg_nameSign, mr_nameSign, mw_nameSign, mg_nameSize, mr_nameSize, mw_nameSize, mg_label, mr_label, mw_label, mg_isContrary, mp_isContrary, mg_text, mr_text, mw_text, mg_textSize, mp_textSize, mg_at, mp_at, mg_token, mp_token, mg_tokenAt, mp_tokenAt, mg_tokenSize, mp_tokenSize, mg_scanned, mp_scanned, mg_fault, mp_fault, mg_faultAt, mp_faultAt, mg_place, mp_place, mg_open, mp_open, mg_level, mr_level, mw_level, mg_stage, mr_stage, mw_stage, mg_held, mr_held, mw_held, mg_signPlace, mr_signPlace, mw_signPlace, mg_value, mp_value, mg_row, mr_row, mw_row, mg_contrary, mr_contrary, mw_contrary, mg_firstRow, mr_firstRow, mw_firstRow, mg_firstContrary, mr_firstContrary, mw_firstContrary, mg_depthOf, mr_depthOf, mw_depthOf, mg_phase, mr_phase, mw_phase, mg_tried, mr_tried, mw_tried, mg_before, mr_before, mw_before, mg_old, mr_old, mw_old, mg_steps, mp_steps, mg_mostSteps, mp_mostSteps, mg_rounds, mp_rounds, mg_passes, mp_passes, mg_branches, mp_branches, mg_worth, mr_worth, mw_worth, h1, nL_2, nL_240, nI_add, nI_leI, hlt, xo_in, nI_clamp, q1, nI_eq, nI_1, sp_ct]
    by_cases a1 : lb v = v
    · simp only [a1, not_true_eq_false, if_false, beq_self_eq_true, if_true]
      rw [e_Md_classes_41, i1]
      rw [show c + 1 + sp_ct (fun l => lb l == l) (v + 1) m = c + (1 + sp_ct (fun l => lb l == l) (v + 1) m) by omega]
    · have a2 : (lb v == v) = false := by simp [a1]
      simp only [a1, not_false_eq_true, if_true, a2]
      rw [e_Md_classes_41, nL_a0, i0]
      simp
theorem c_classes {n f : Nat} (h1 : σ.1 3 = nI n) (hn : n ≤ 120) (hf : f < 6) {lb : Nat → Nat} (hb : ∀ l, l < 2 * n → σ.2 26 (240 * f + l) = nI (lb l) ∧ lb l < 2 ^ 31) : ev_C X d m_Md_classes [.ref B, .int (nI f)] (md_put B σ g) Q ↔ Q (some (.int (nI (sp_ct (fun l => lb l == l) 0 (2 * n))))) (md_put B σ g) := by
  show ev_R X d m_Md_classes 0 [some (.ref B), some (.int (nI f)), none, none] [] (md_put B σ g) Q ↔ _
  have hl := c_classes_loop (X := X) (d := d) (B := B) (g := g) (Q := Q) h1 hn hf hb (2 * n) 0 0 (by omega) (Nat.le_refl 0)
  rw [Nat.zero_add] at hl
  simp (disch := first | exact ev_ok_i _ | exact ev_ok_r _ | exact ev_ok_n | omega | assumption) only [e_Md_classes_0, e_Md_classes_1, e_Md_classes_2, e_Md_classes_3, ev_rm_n, ev_rm_i, ev_rm_r, ev_rm_l, ev_ok_n, ev_ok_i, ev_ok_r, Option.toList_some, Option.toList_none, List.cons_append, List.nil_append, true_and, and_true, true_or, or_true, reduceIte, Nat.reduceEqDiff, if_true, if_false]
  exact hl
/-- the label that a join gives -/
def md_jl (p q u w : Nat) (x : Nat) : Nat := if x = p ∨ x = q then sp_mn p q else if x = u ∨ x = w then sp_mn u w else x
def md_jr (σ : md_S) (f p q u w v : Nat) (lb : Nat → Nat) : md_S := md_fi σ 26 (fun j => nI (md_jl p q u w (lb (j - 240 * f)))) (240 * f) (240 * f + v)
theorem c_joined_loop {n f p q u w : Nat} (h1 : σ.1 3 = nI n) (hn : n ≤ 120) (hf : f < 6) {lb : Nat → Nat} (hb : ∀ l, l < 2 * n → σ.2 26 (240 * f + l) = nI (lb l) ∧ lb l < 2 ^ 31) (hp : p < 2 ^ 31) (hq : q < 2 ^ 31) (hu : u < 2 ^ 31) (hw : w < 2 ^ 31) {l1 l2 l3 : Option Value} : ∀ (m v : Nat) (l12 : Option Value), v + m = 2 * n → (ev_R X d m_Md_joined 124 [some (.ref B), l1, l2, l3, some (.int (nI (240 * f))), some (.int (nI p)), some (.int (nI q)), some (.int (nI u)), some (.int (nI w)), some (.int (nI (sp_mn p q))), some (.int (nI (sp_mn u w))), some (.int (nI v)), l12] [] (md_put B (md_jr σ f p q u w v lb) g) Q ↔ Q (some (.int 1)) (md_put B (md_jr σ f p q u w (2 * n) lb) g)) := by
  intro m
  have k1 : ∀ v, (md_jr σ f p q u w v lb).1 = σ.1 := fun _ => rfl
  have k2 : ∀ v, v < 2 * n → (md_jr σ f p q u w v lb).2 26 (240 * f + v) = nI (lb v) := fun v hv => by
    unfold md_jr
    rw [md_fi_2, if_pos rfl, if_neg (by omega)]
    exact (hb v hv).1
  induction m with
  | zero =>
    intro v l12 hv
    have e : v = 2 * n := by omega
    subst e
    simp (disch := first | exact ev_ok_i _ | exact ev_ok_r _ | exact ev_ok_n | omega | assumption) only [e_Md_joined_124, e_Md_joined_126, e_Md_joined_127, e_Md_joined_128, e_Md_joined_131, e_Md_joined_132, e_Md_joined_203, e_Md_joined_204, ev_rm_n, ev_rm_i, ev_rm_r, ev_rm_l, ev_ok_n, ev_ok_i, ev_ok_r, Option.toList_some, Option.toList_none, List.cons_append, List.nil_append, true_and, and_true, true_or, or_true, reduceIte, Nat.reduceEqDiff, if_true, if_false, md_rc, md_si_1, md_si_2, md_sa_1, md_sa_2, mg_kind, mr_kind, mw_kind, mg_one, mr_one, mw_one, mg_two, mr_two, mw_two, mg_variables, mp_variables, mg_inputs, mp_inputs, mg_inputOf, mr_inputOf, mw_inputOf, mg_nameSign, mr_nameSign, mw_nameSign, mg_nameSize, mr_nameSize, mw_nameSize, mg_label, mr_label, mw_label, mg_isContrary, mp_isContrary, mg_text, mr_text, mw_text, mg_textSize, mp_textSize, mg_at, mp_at, mg_token, mp_token, mg_tokenAt, mp_tokenAt, mg_tokenSize, mp_tokenSize, mg_scanned, mp_scanned, mg_fault, mp_fault, mg_faultAt, mp_faultAt, mg_place, mp_place, mg_open, mp_open, mg_level, mr_level, mw_level, mg_stage, mr_stage, mw_stage, mg_held, mr_held, mw_held, mg_signPlace, mr_signPlace, mw_signPlace, mg_value, mp_value, mg_row, mr_row, mw_row, mg_contrary, mr_contrary, mw_contrary, mg_firstRow, mr_firstRow, mw_firstRow, mg_firstContrary, mr_firstContrary, mw_firstContrary, mg_depthOf, mr_depthOf, mw_depthOf, mg_phase, mr_phase, mw_phase, mg_tried, mr_tried, mw_tried, mg_before, mr_before, mw_before, mg_old, mr_old, mw_old, mg_steps, mp_steps, mg_mostSteps, mp_mostSteps, mg_rounds, mp_rounds, mg_passes, mp_passes, mg_branches, mp_branches, mg_worth, mr_worth, mw_worth, k1, h1, nL_2, nI_leI, Nat.le_refl]
  | succ m ih =>
    intro v l12 hv
    have hih := ih (v + 1) (some (.int (nI (lb v)))) (by omega)
    have hlt : ¬ 2 * n ≤ v := by omega
    have q2 := (hb v (by omega)).2
    have hk := k2 v (by omega)
    have hs : ∀ x, x = nI (md_jl p q u w (lb v)) → md_sa (md_jr σ f p q u w v lb) 26 (240 * f + v) x = md_jr σ f p q u w (v + 1) lb := fun x hx => by
      unfold md_jr
      exact md_fi_s σ 26 _ (Nat.le_add_right _ _) (by rw [Nat.add_sub_cancel_left]; exact hx)
    simp (disch := first | exact ev_ok_i _ | exact ev_ok_r _ | exact ev_ok_n | omega | assumption) only [e_Md_joined_124, e_Md_joined_126, e_Md_joined_127, e_Md_joined_128, e_Md_joined_131, e_Md_joined_132, e_Md_joined_135, e_Md_joined_136, e_Md_joined_139, e_Md_joined_141, e_Md_joined_143, e_Md_joined_144, e_Md_joined_145, e_Md_joined_147, e_Md_joined_148, e_Md_joined_151, e_Md_joined_153, e_Md_joined_155, e_Md_joined_156, e_Md_joined_158, e_Md_joined_160, e_Md_joined_163, e_Md_joined_165, e_Md_joined_167, e_Md_joined_170, e_Md_joined_172, e_Md_joined_175, e_Md_joined_177, e_Md_joined_179, e_Md_joined_182, e_Md_joined_184, e_Md_joined_186, e_Md_joined_189, e_Md_joined_191, e_Md_joined_194, e_Md_joined_196, e_Md_joined_197, ev_rm_n, ev_rm_i, ev_rm_r, ev_rm_l, ev_ok_n, ev_ok_i, ev_ok_r, Option.toList_some, Option.toList_none, List.cons_append, List.nil_append, true_and, and_true, true_or, or_true, reduceIte, Nat.reduceEqDiff, if_true, if_false, md_rc, md_si_1, md_si_2, md_sa_1, md_sa_2, mg_kind, mr_kind, mw_kind, mg_one, mr_one, mw_one, mg_two, mr_two, mw_two, mg_variables, mp_variables, mg_inputs, mp_inputs, mg_inputOf, mr_inputOf, mw_inputOf, mg_nameSign, mr_nameSign, mw_nameSign, mg_nameSize, mr_nameSize, mw_nameSize, mg_label, mr_label, mw_label, mg_isContrary, mp_isContrary, mg_text, mr_text, mw_text, mg_textSize, mp_textSize, mg_at, mp_at, mg_token, mp_token, mg_tokenAt, mp_tokenAt, mg_tokenSize, mp_tokenSize, mg_scanned, mp_scanned, mg_fault, mp_fault, mg_faultAt, mp_faultAt, mg_place, mp_place, mg_open, mp_open, mg_level, mr_level, mw_level, mg_stage, mr_stage, mw_stage, mg_held, mr_held, mw_held, mg_signPlace, mr_signPlace, mw_signPlace, mg_value, mp_value, mg_row, mr_row, mw_row, mg_contrary, mr_contrary, mw_contrary, mg_firstRow, mr_firstRow, mw_firstRow, mg_firstContrary, mr_firstContrary, mw_firstContrary, mg_depthOf, mr_depthOf, mw_depthOf, mg_phase, mr_phase, mw_phase, mg_tried, mr_tried, mw_tried, mg_before, mr_before, mw_before, mg_old, mr_old, mw_old, mg_steps, mp_steps, mg_mostSteps, mp_mostSteps, mg_rounds, mp_rounds, mg_passes, mp_passes, mg_branches, mp_branches, mg_worth, mr_worth, mw_worth, k1, h1, nL_2, nI_add, nI_leI, hlt, xo_in, nI_clamp, nI_1, hk, nI_eq]
    by_cases a1 : lb v = p
    · simp only [a1, if_true]
      rw [hs _ (by simp [md_jl, a1]), e_Md_joined_200]
      rw [a1] at hih
      exact hih
    · by_cases a2 : lb v = q
      · simp only [a1, if_false]
        simp only [a2, not_true_eq_false, if_false]
        rw [hs _ (by simp [md_jl, a2]), e_Md_joined_200]
        rw [a2] at hih
        exact hih
      · simp only [a1, a2, if_false, not_false_eq_true, if_true]
        by_cases a3 : lb v = u
        · simp only [a3, if_true]
          rw [hs _ (by rw [a3] at a1 a2; simp [md_jl, a1, a2, a3]), e_Md_joined_200]
          rw [a3] at hih
          exact hih
        · by_cases a4 : lb v = w
          · simp only [a3, if_false]
            simp only [a4, not_true_eq_false, if_false]
            rw [hs _ (by rw [a4] at a1 a2; simp [md_jl, a1, a2, a4]), e_Md_joined_200]
            rw [a4] at hih
            exact hih
          · simp only [a3, a4, if_false, not_false_eq_true, if_true]
            rw [hs _ (by simp [md_jl, a1, a2, a3, a4]), e_Md_joined_200]
            exact hih
/-- join: the answer and the state (lb: the labels of row f; c: whether it is contrary) -/
def md_jn (σ : md_S) (n f a b : Nat) (lb : Nat → Nat) : Int32 × md_S := if σ.2 27 f ≠ 0 ∨ lb a = lb b then (0, σ) else if lb a = lb (b ^^^ 1) then (0, md_sa σ 27 f 1) else (1, md_jr σ f (lb a) (lb b) (lb (a ^^^ 1)) (lb (b ^^^ 1)) (2 * n) lb)
theorem xor1_lt {a n : Nat} (h : a < 2 * n) : a ^^^ 1 < 2 * n := by
  have h1 : (a ^^^ 1) / 2 = a / 2 := by
    rw [Nat.xor_div_two]
    simp
  omega
theorem c_joined {n f a b : Nat} (h1 : σ.1 3 = nI n) (hn : n ≤ 120) (hf : f < 6) (ha : a < 2 * n) (hbn : b < 2 * n) {lb : Nat → Nat} (hb : ∀ l, l < 2 * n → σ.2 26 (240 * f + l) = nI (lb l) ∧ lb l < 2 ^ 31) : ev_C X d m_Md_joined [.ref B, .int (nI f), .int (nI a), .int (nI b)] (md_put B σ g) Q ↔ Q (some (.int (md_jn σ n f a b lb).1)) (md_put B (md_jn σ n f a b lb).2 g) := by
  show ev_R X d m_Md_joined 0 [some (.ref B), some (.int (nI f)), some (.int (nI a)), some (.int (nI b)), none, none, none, none, none, none, none, none, none] [] (md_put B σ g) Q ↔ _
  have ha1 := xor1_lt ha
  have hb1 := xor1_lt hbn
  obtain ⟨p1, p2⟩ := hb a ha
  obtain ⟨q1, q2⟩ := hb b hbn
  obtain ⟨u1, u2⟩ := hb _ ha1
  obtain ⟨w1, w2⟩ := hb _ hb1
  have hl := c_joined_loop (X := X) (d := d) (B := B) (g := g) (Q := Q) (l1 := some (.int (nI f))) (l2 := some (.int (nI a))) (l3 := some (.int (nI b))) h1 hn hf hb p2 q2 u2 w2 (2 * n) 0 none (by omega)
  unfold md_jr at hl
  rw [Nat.add_zero, md_fi_0] at hl
  unfold md_jn md_jr
  simp (disch := first | exact ev_ok_i _ | exact ev_ok_r _ | exact ev_ok_n | omega | assumption) only [e_Md_joined_0, e_Md_joined_3, e_Md_joined_4, e_Md_joined_5, e_Md_joined_7, e_Md_joined_8, e_Md_joined_11, e_Md_joined_13, e_Md_joined_14, e_Md_joined_15, e_Md_joined_16, e_Md_joined_18, e_Md_joined_19, e_Md_joined_22, e_Md_joined_24, e_Md_joined_25, e_Md_joined_26, e_Md_joined_27, e_Md_joined_29, e_Md_joined_30, e_Md_joined_33, e_Md_joined_34, e_Md_joined_35, e_Md_joined_38, e_Md_joined_40, e_Md_joined_42, e_Md_joined_45, e_Md_joined_46, e_Md_joined_47, e_Md_joined_48, e_Md_joined_51, e_Md_joined_53, e_Md_joined_54, e_Md_joined_55, e_Md_joined_56, e_Md_joined_57, e_Md_joined_58, e_Md_joined_60, e_Md_joined_61, e_Md_joined_64, e_Md_joined_66, e_Md_joined_67, e_Md_joined_68, e_Md_joined_69, e_Md_joined_70, e_Md_joined_71, e_Md_joined_73, e_Md_joined_75, e_Md_joined_77, e_Md_joined_80, e_Md_joined_81, e_Md_joined_84, e_Md_joined_85, e_Md_joined_86, e_Md_joined_87, e_Md_joined_88, e_Md_joined_89, e_Md_joined_91, e_Md_joined_93, e_Md_joined_96, e_Md_joined_98, e_Md_joined_101, e_Md_joined_103, e_Md_joined_105, e_Md_joined_107, e_Md_joined_109, e_Md_joined_112, e_Md_joined_114, e_Md_joined_117, e_Md_joined_119, e_Md_joined_121, e_Md_joined_122, ev_rm_n, ev_rm_i, ev_rm_r, ev_rm_l, ev_ok_n, ev_ok_i, ev_ok_r, Option.toList_some, Option.toList_none, List.cons_append, List.nil_append, true_and, and_true, true_or, or_true, reduceIte, Nat.reduceEqDiff, if_true, if_false, md_rc, md_si_1, md_si_2, md_sa_1, md_sa_2, mg_kind, mr_kind, mw_kind, mg_one, mr_one, mw_one, mg_two, mr_two, mw_two, mg_variables, mp_variables, mg_inputs, mp_inputs, mg_inputOf, mr_inputOf, mw_inputOf, mg_nameSign, mr_nameSign, mw_nameSign, mg_nameSize, mr_nameSize, mw_nameSize, mg_label, mr_label, mw_label, mg_isContrary, mp_isContrary, mg_text, mr_text, mw_text, mg_textSize, mp_textSize, mg_at, mp_at, mg_token, mp_token, mg_tokenAt, mp_tokenAt, mg_tokenSize, mp_tokenSize, mg_scanned, mp_scanned, mg_fault, mp_fault, mg_faultAt, mp_faultAt, mg_place, mp_place, mg_open, mp_open, mg_level, mr_level, mw_level, mg_stage, mr_stage, mw_stage, mg_held, mr_held, mw_held, mg_signPlace, mr_signPlace, mw_signPlace, mg_value, mp_value, mg_row, mr_row, mw_row, mg_contrary, mr_contrary, mw_contrary, mg_firstRow, mr_firstRow, mw_firstRow, mg_firstContrary, mr_firstContrary, mw_firstContrary, mg_depthOf, mr_depthOf, mw_depthOf, mg_phase, mr_phase, mw_phase, mg_tried, mr_tried, mw_tried, mg_before, mr_before, mw_before, mg_old, mr_old, mw_old, mg_steps, mp_steps, mg_mostSteps, mp_mostSteps, mg_rounds, mp_rounds, mg_passes, mp_passes, mg_branches, mp_branches, mg_worth, mr_worth, mw_worth, nL_240, nI_add, nL_x1, xo_in, nI_clamp, p1, q1, u1, w1, nI_eq, nI_leI]
  by_cases c0 : σ.2 27 f = 0
  · by_cases c1 : lb a = lb b
    · simp [c0, c1]
    · by_cases c2 : lb a = lb (b ^^^ 1)
      · rw [c2] at c1
        simp [c0, c1, c2, nZ_1]
      · have e0 : (0 : Int32) = nI 0 := rfl
        simp only [c0, c1, c2, not_true_eq_false, not_false_eq_true, if_true, if_false, ne_eq, or_self]
        by_cases m1 : lb a < lb b <;> by_cases m2 : lb (a ^^^ 1) < lb (b ^^^ 1)
        · simp only [sp_mn, m1, m2, if_true] at hl
          have n1 : ¬ lb b ≤ lb a := by omega
          have n2 : ¬ lb (b ^^^ 1) ≤ lb (a ^^^ 1) := by omega
          simp only [n1, n2, if_false]
          exact hl
        · simp only [sp_mn, m1, m2, if_true, if_false] at hl
          have n1 : ¬ lb b ≤ lb a := by omega
          have n2 : lb (b ^^^ 1) ≤ lb (a ^^^ 1) := by omega
          simp only [n1, n2, if_false, if_true]
          exact hl
        · simp only [sp_mn, m1, m2, if_true, if_false] at hl
          have n1 : lb b ≤ lb a := by omega
          have n2 : ¬ lb (b ^^^ 1) ≤ lb (a ^^^ 1) := by omega
          simp only [n1, n2, if_false, if_true]
          exact hl
        · simp only [sp_mn, m1, m2, if_false] at hl
          have n1 : lb b ≤ lb a := by omega
          have n2 : lb (b ^^^ 1) ≤ lb (a ^^^ 1) := by omega
          simp only [n1, n2, if_true]
          exact hl
  · simp [c0]
end M2
