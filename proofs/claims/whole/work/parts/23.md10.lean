/-! the reference's machine of frames: its rounds of the loop -/
theorem upd_a (f : Nat → Int32) (k : Nat) (x : Int32) (j : Nat) : upd f k x j = if j = k then x else f j := rfl
theorem md_ci_fr {σ σ2 : md_S} {f n : Nat} {kd o1 o2 : Nat → Nat} (h : md_fr σ σ2 f) (hc : md_ci σ n kd o1 o2) : md_ci σ2 n kd o1 o2 := by
  obtain ⟨h1, h2, h3, h4⟩ := hc
  refine ⟨by rw [h.1 3 (by decide) (by decide) (by decide) (by decide)]; exact h1, h2, h3, fun v hv => ?_⟩
  rw [h.2.1 0 (by decide), h.2.1 1 (by decide), h.2.1 2 (by decide)]
  exact h4 v hv
theorem md_ms_fr {σ σ2 : md_S} {f : Nat} {x : Int32} (h : md_fr σ σ2 f) (hm : σ.1 36 = x) : σ2.1 36 = x := (h.1 36 (by decide) (by decide) (by decide) (by decide)).trans hm
theorem md_rw_fr {σ σ2 : md_S} {f n k : Nat} {E : sp_E} (h : md_fr σ σ2 f) (hk : k < f) (hn : n ≤ 120) (hr : md_rw σ n k E) : md_rw σ2 n k E := by
  refine ⟨fun l hl => ?_, ?_⟩
  · rw [h.2.2.1 26 _ (Or.inl rfl) (by have := Nat.mul_le_mul_left 240 (Nat.succ_le_of_lt hk); omega)]
    exact hr.1 l hl
  · rw [h.2.2.2 27 k (Or.inl rfl) hk]
    exact hr.2
theorem md_fr_sa2 {σ σ2 : md_S} {f q j : Nat} {v : Int32} (h : md_fr σ σ2 f) (h1 : 27 ≤ q) (h2 : q ≤ 33) (h3 : ¬ q = 28) (hj : f ≤ j) : md_fr σ (md_sa σ2 q j v) f := md_fr_tr h (md_fr_sa σ2 v h1 h2 h3 hj) (Nat.le_refl f)
theorem md_fr_si2 {σ σ2 : md_S} {f k : Nat} {v : Int32} (h : md_fr σ σ2 f) (hk : k = 35 ∨ k = 37 ∨ k = 38 ∨ k = 39) : md_fr σ (md_si σ2 k v) f := by
  refine md_fr_tr h ⟨fun i a b c e => ?_, fun _ _ => rfl, fun _ _ _ _ => rfl, fun _ _ _ _ => rfl⟩ (Nat.le_refl f)
  rw [md_si_1, if_neg (by omega)]
theorem md_fr_wr2 {σ σ2 : md_S} {n f f2 : Nat} {E : sp_E} (h : md_fr σ σ2 f) (hf : f ≤ f2) : md_fr σ (md_wr σ2 n f2 E) f := md_fr_tr h (md_fr_wr σ2 E hf) (Nat.le_refl f)
theorem md_fr_so2 {σ σ2 : md_S} {f : Nat} {o : Nat → Int32} (h : md_fr σ σ2 f) : md_fr σ (md_so σ2 o) f := by
  refine md_fr_tr h ⟨fun _ _ _ _ _ => rfl, fun q hq => ?_, fun q j hq _ => ?_, fun q j hq _ => ?_⟩ (Nat.le_refl f)
  · rw [md_so_2, if_neg (by omega)]
  · rw [md_so_2, if_neg (by omega)]
  · rw [md_so_2, if_neg (by omega)]
section M10
variable {X : xo_X} {d B : Nat} {σ : md_S} {g : xo_G} {Q : Option Value → xo_G → Prop} {n ms : Nat} {kd o1 o2 : Nat → Nat}
theorem c_plainR {f : Nat} (hc : md_ci σ n kd o1 o2) (hw : sp_wf n kd o1 o2) (hf : f < 6) (hm : σ.1 36 = nI ms) (hms : ms < 2 ^ 31) {E : sp_E} {t : sp_T} (ho : sp_ok n ms E t) (hr : md_rw σ n f E) (ht : md_tt σ t) (hS : (sp_st n kd o1 o2 ms E t).1 = true → Q (some (.int 0)) (md_put B σ g)) (hG : (sp_st n kd o1 o2 ms E t).1 = false → ∀ σ2, md_fr σ σ2 f → md_tt σ2 (sp_st n kd o1 o2 ms E t).2.2 → md_rw σ2 n f (sp_st n kd o1 o2 ms E t).2.1 → (∀ q, 28 ≤ q → q ≤ 33 → σ2.2 q = σ.2 q) → Q (some (.int 1)) (md_put B σ2 g)) : ev_C X (d + 4) m_Md_plain [.ref B, .int (nI f)] (md_put B σ g) Q := by
  have e1 : md_wr (md_T σ t (σ.2 34)) n f E = σ := by rw [md_T_eq ht]; exact md_wr_eq hr
  unfold sp_st at hS hG
  have hp := c_plain (X := X) (d := d) (B := B) (g := g) (Q := Q) (σ := σ) (f := f) (t := t) (o := σ.2 34) (E := E) hc hw hf hm hms (by have := ho.2.1; omega) ho.1 (fun h => by rw [e1]; rw [if_pos h] at hS; exact hS rfl) (fun h o' => by
    rw [if_neg h] at hG
    refine hG rfl _ ?_ ⟨rfl, rfl, rfl, rfl⟩ ⟨fun l hl => md_wr_row _ _ hl, md_wr_c _ _ _ _⟩ (fun q h1 h2 => ?_)
    · exact md_fr_tr (md_fr_T σ f _ o') (md_fr_wr _ _ (Nat.le_refl f)) (Nat.le_refl f)
    · rw [md_wr_2 _ _ _ _ (by omega) (by omega), md_T_2, if_neg (by omega)])
  rw [e1] at hp
  exact hp
/-- the head of the loop, at frame i -/
def md_hd (X : xo_X) (d B : Nat) (dp : Int32) (g : xo_G) (Q : Option Value → xo_G → Prop) (i : Int32) (l3 : Option Value) (σ : md_S) : Prop := ev_R X (d + 5) m_Md_saturated 16 [some (.ref B), some (.int dp), some (.int i), l3] [] (md_put B σ g) Q
/-- phase 0: a step, then passes or the end -/
theorem c_ph0 {f k : Nat} {dp : Int32} {l3 : Option Value} (hc : md_ci σ n kd o1 o2) (hw : sp_wf n kd o1 o2) (hf : f < 6) (hm : σ.1 36 = nI ms) (hms : ms < 2 ^ 31) {E : sp_E} {t : sp_T} (ho : sp_ok n ms E t) (hr : md_rw σ n f E) (ht : md_tt σ t) (hk : σ.2 30 f = nI k) (hkb : k < 2 ^ 31) (h0 : σ.2 31 f = 0)
    (hS : (sp_st n kd o1 o2 ms E t).1 = true → Q (some (.int 0)) (md_put B σ g))
    (hP : (sp_st n kd o1 o2 ms E t).1 = false → (k = 0 ∨ (sp_st n kd o1 o2 ms E t).2.1.2 = true) → ∀ σ2, md_fr σ σ2 f → md_tt σ2 (sp_st n kd o1 o2 ms E t).2.2 → md_rw σ2 n f (sp_st n kd o1 o2 ms E t).2.1 → md_hd X d B dp g Q (nI f + (-1)) l3 σ2)
    (hG : (sp_st n kd o1 o2 ms E t).1 = false → ¬ k = 0 → (sp_st n kd o1 o2 ms E t).2.1.2 = false → ∀ σ2, md_fr σ σ2 f → md_tt σ2 ((sp_st n kd o1 o2 ms E t).2.2.1, (sp_st n kd o1 o2 ms E t).2.2.2.1, (sp_st n kd o1 o2 ms E t).2.2.2.2.1 + 1, (sp_st n kd o1 o2 ms E t).2.2.2.2.2) → md_rw σ2 n f (sp_st n kd o1 o2 ms E t).2.1 → σ2.2 30 f = nI k → σ2.2 31 f = 2 → σ2.2 32 f = 1 → σ2.2 33 f = nI (sp_cn n (sp_st n kd o1 o2 ms E t).2.1) → md_hd X d B dp g Q (nI f) l3 σ2) : md_hd X d B dp g Q (nI f) l3 σ := by
  unfold md_hd
  have hnf : ¬ nI f < 0 := nI_pos (by omega)
  simp (disch := first | exact ev_ok_i _ | exact ev_ok_r _ | exact ev_ok_n | omega | assumption) only [e_Md_saturated_16, e_Md_saturated_17, e_Md_saturated_20, e_Md_saturated_21, e_Md_saturated_24, e_Md_saturated_25, e_Md_saturated_26, e_Md_saturated_29, e_Md_saturated_30, e_Md_saturated_31, ev_rm_n, ev_rm_i, ev_rm_r, ev_rm_l, ev_ok_n, ev_ok_i, ev_ok_r, Option.toList_some, Option.toList_none, List.cons_append, List.nil_append, true_and, and_true, true_or, or_true, reduceIte, Nat.reduceEqDiff, if_true, if_false, md_rc, md_si_1, md_si_2, md_sa_1, md_sa_2, mg_kind, mr_kind, mw_kind, mg_one, mr_one, mw_one, mg_two, mr_two, mw_two, mg_variables, mp_variables, mg_inputs, mp_inputs, mg_inputOf, mr_inputOf, mw_inputOf, mg_nameSign, mr_nameSign, mw_nameSign, mg_nameSize, mr_nameSize, mw_nameSize, mg_label, mr_label, mw_label, mg_isContrary, mp_isContrary, mg_text, mr_text, mw_text, mg_textSize, mp_textSize, mg_at, mp_at, mg_token, mp_token, mg_tokenAt, mp_tokenAt, mg_tokenSize, mp_tokenSize, mg_scanned, mp_scanned, mg_fault, mp_fault, mg_faultAt, mp_faultAt, mg_place, mp_place, mg_open, mp_open, mg_level, mr_level, mw_level, mg_stage, mr_stage, mw_stage, mg_held, mr_held, mw_held, mg_signPlace, mr_signPlace, mw_signPlace, mg_value, mp_value, mg_row, mr_row, mw_row, mg_contrary, mr_contrary, mw_contrary, mg_firstRow, mr_firstRow, mw_firstRow, mg_firstContrary, mr_firstContrary, mw_firstContrary, mg_depthOf, mr_depthOf, mw_depthOf, mg_phase, mr_phase, mw_phase, mg_tried, mr_tried, mw_tried, mg_before, mr_before, mw_before, mg_old, mr_old, mw_old, mg_steps, mp_steps, mg_mostSteps, mp_mostSteps, mg_rounds, mp_rounds, mg_passes, mp_passes, mg_branches, mp_branches, mg_worth, mr_worth, mw_worth, hnf, xo_in, nI_clamp, h0]
  refine c_plainR hc hw hf hm hms ho hr ht (fun h => ?_) (fun h σ2 f1 f2 f3 f4 => ?_)
  · simp (disch := first | exact ev_ok_i _ | exact ev_ok_r _ | exact ev_ok_n | omega | assumption) only [e_Md_saturated_34, e_Md_saturated_37, e_Md_saturated_38, ev_rm_n, ev_rm_i, ev_rm_r, ev_rm_l, ev_ok_n, ev_ok_i, ev_ok_r, Option.toList_some, Option.toList_none, List.cons_append, List.nil_append, true_and, and_true, true_or, or_true, reduceIte, Nat.reduceEqDiff, if_true, if_false]
    simpa using hS h
  · have hE := (sp_st_gd hw hc.2.1 E t ho).1
    have a30 : σ2.2 30 f = nI k := by rw [f4 30 (by decide) (by decide)]; exact hk
    have hc2 := md_ci_fr f1 hc
    have hne : ¬ (1 : Int32) = 0 := by decide
    by_cases hk0 : k = 0
    · have hP2 := hP h (Or.inl hk0) σ2 f1 f2 f3
      subst hk0
      have e0 : nI 0 = 0 := rfl
      rw [e0] at a30
      simp (disch := first | exact ev_ok_i _ | exact ev_ok_r _ | exact ev_ok_n | omega | assumption) only [e_Md_saturated_34, e_Md_saturated_39, e_Md_saturated_40, e_Md_saturated_43, e_Md_saturated_44, e_Md_saturated_45, e_Md_saturated_57, ev_rm_n, ev_rm_i, ev_rm_r, ev_rm_l, ev_ok_n, ev_ok_i, ev_ok_r, Option.toList_some, Option.toList_none, List.cons_append, List.nil_append, true_and, and_true, true_or, or_true, reduceIte, Nat.reduceEqDiff, if_true, if_false, md_rc, md_si_1, md_si_2, md_sa_1, md_sa_2, mg_kind, mr_kind, mw_kind, mg_one, mr_one, mw_one, mg_two, mr_two, mw_two, mg_variables, mp_variables, mg_inputs, mp_inputs, mg_inputOf, mr_inputOf, mw_inputOf, mg_nameSign, mr_nameSign, mw_nameSign, mg_nameSize, mr_nameSize, mw_nameSize, mg_label, mr_label, mw_label, mg_isContrary, mp_isContrary, mg_text, mr_text, mw_text, mg_textSize, mp_textSize, mg_at, mp_at, mg_token, mp_token, mg_tokenAt, mp_tokenAt, mg_tokenSize, mp_tokenSize, mg_scanned, mp_scanned, mg_fault, mp_fault, mg_faultAt, mp_faultAt, mg_place, mp_place, mg_open, mp_open, mg_level, mr_level, mw_level, mg_stage, mr_stage, mw_stage, mg_held, mr_held, mw_held, mg_signPlace, mr_signPlace, mw_signPlace, mg_value, mp_value, mg_row, mr_row, mw_row, mg_contrary, mr_contrary, mw_contrary, mg_firstRow, mr_firstRow, mw_firstRow, mg_firstContrary, mr_firstContrary, mw_firstContrary, mg_depthOf, mr_depthOf, mw_depthOf, mg_phase, mr_phase, mw_phase, mg_tried, mr_tried, mw_tried, mg_before, mr_before, mw_before, mg_old, mr_old, mw_old, mg_steps, mp_steps, mg_mostSteps, mp_mostSteps, mg_rounds, mp_rounds, mg_passes, mp_passes, mg_branches, mp_branches, mg_worth, mr_worth, mw_worth, hne, xo_in, nI_clamp, a30]
      simp only [not_false_eq_true, if_true]
      rw [e_Md_saturated_60]
      exact hP2
    · cases hcn : (sp_st n kd o1 o2 ms E t).2.1.2 with
      | true =>
        have hP2 := hP h (Or.inr hcn) σ2 f1 f2 f3
        have a27 := f3.2
        rw [hcn] at a27
        simp (disch := first | exact ev_ok_i _ | exact ev_ok_r _ | exact ev_ok_n | omega | assumption) only [e_Md_saturated_34, e_Md_saturated_39, e_Md_saturated_40, e_Md_saturated_43, e_Md_saturated_44, e_Md_saturated_45, e_Md_saturated_48, e_Md_saturated_49, e_Md_saturated_52, e_Md_saturated_53, e_Md_saturated_54, e_Md_saturated_57, ev_rm_n, ev_rm_i, ev_rm_r, ev_rm_l, ev_ok_n, ev_ok_i, ev_ok_r, Option.toList_some, Option.toList_none, List.cons_append, List.nil_append, true_and, and_true, true_or, or_true, reduceIte, Nat.reduceEqDiff, if_true, if_false, md_rc, md_si_1, md_si_2, md_sa_1, md_sa_2, mg_kind, mr_kind, mw_kind, mg_one, mr_one, mw_one, mg_two, mr_two, mw_two, mg_variables, mp_variables, mg_inputs, mp_inputs, mg_inputOf, mr_inputOf, mw_inputOf, mg_nameSign, mr_nameSign, mw_nameSign, mg_nameSize, mr_nameSize, mw_nameSize, mg_label, mr_label, mw_label, mg_isContrary, mp_isContrary, mg_text, mr_text, mw_text, mg_textSize, mp_textSize, mg_at, mp_at, mg_token, mp_token, mg_tokenAt, mp_tokenAt, mg_tokenSize, mp_tokenSize, mg_scanned, mp_scanned, mg_fault, mp_fault, mg_faultAt, mp_faultAt, mg_place, mp_place, mg_open, mp_open, mg_level, mr_level, mw_level, mg_stage, mr_stage, mw_stage, mg_held, mr_held, mw_held, mg_signPlace, mr_signPlace, mw_signPlace, mg_value, mp_value, mg_row, mr_row, mw_row, mg_contrary, mr_contrary, mw_contrary, mg_firstRow, mr_firstRow, mw_firstRow, mg_firstContrary, mr_firstContrary, mw_firstContrary, mg_depthOf, mr_depthOf, mw_depthOf, mg_phase, mr_phase, mw_phase, mg_tried, mr_tried, mw_tried, mg_before, mr_before, mw_before, mg_old, mr_old, mw_old, mg_steps, mp_steps, mg_mostSteps, mp_mostSteps, mg_rounds, mp_rounds, mg_passes, mp_passes, mg_branches, mp_branches, mg_worth, mr_worth, mw_worth, hne, xo_in, nI_clamp, a30, nE_0, hk0, a27, sp_zb_0]
        simp only [not_false_eq_true, if_true, Bool.true_eq_false, if_false]
        rw [e_Md_saturated_60]
        exact hP2
      | false =>
        have a27 := f3.2
        rw [hcn] at a27
        have hbp := fun Q => c_beginPass (X := X) (d := d + 3) (B := B) (g := g) (Q := Q) (σ := σ2) (f := f) hc2.1 hc2.2.2.1 hf hE f3 f2
        simp (disch := first | exact ev_ok_i _ | exact ev_ok_r _ | exact ev_ok_n | omega | assumption) only [e_Md_saturated_34, e_Md_saturated_39, e_Md_saturated_40, e_Md_saturated_43, e_Md_saturated_44, e_Md_saturated_45, e_Md_saturated_48, e_Md_saturated_49, e_Md_saturated_52, e_Md_saturated_53, e_Md_saturated_54, e_Md_saturated_63, e_Md_saturated_64, e_Md_saturated_65, ev_rm_n, ev_rm_i, ev_rm_r, ev_rm_l, ev_ok_n, ev_ok_i, ev_ok_r, Option.toList_some, Option.toList_none, List.cons_append, List.nil_append, true_and, and_true, true_or, or_true, reduceIte, Nat.reduceEqDiff, if_true, if_false, md_rc, md_si_1, md_si_2, md_sa_1, md_sa_2, mg_kind, mr_kind, mw_kind, mg_one, mr_one, mw_one, mg_two, mr_two, mw_two, mg_variables, mp_variables, mg_inputs, mp_inputs, mg_inputOf, mr_inputOf, mw_inputOf, mg_nameSign, mr_nameSign, mw_nameSign, mg_nameSize, mr_nameSize, mw_nameSize, mg_label, mr_label, mw_label, mg_isContrary, mp_isContrary, mg_text, mr_text, mw_text, mg_textSize, mp_textSize, mg_at, mp_at, mg_token, mp_token, mg_tokenAt, mp_tokenAt, mg_tokenSize, mp_tokenSize, mg_scanned, mp_scanned, mg_fault, mp_fault, mg_faultAt, mp_faultAt, mg_place, mp_place, mg_open, mp_open, mg_level, mr_level, mw_level, mg_stage, mr_stage, mw_stage, mg_held, mr_held, mw_held, mg_signPlace, mr_signPlace, mw_signPlace, mg_value, mp_value, mg_row, mr_row, mw_row, mg_contrary, mr_contrary, mw_contrary, mg_firstRow, mr_firstRow, mw_firstRow, mg_firstContrary, mr_firstContrary, mw_firstContrary, mg_depthOf, mr_depthOf, mw_depthOf, mg_phase, mr_phase, mw_phase, mg_tried, mr_tried, mw_tried, mg_before, mr_before, mw_before, mg_old, mr_old, mw_old, mg_steps, mp_steps, mg_mostSteps, mp_mostSteps, mg_rounds, mp_rounds, mg_passes, mp_passes, mg_branches, mp_branches, mg_worth, mr_worth, mw_worth, hne, xo_in, nI_clamp, a30, nE_0, hk0, a27, sp_zb_0, hbp]
        simp only [not_false_eq_true, if_true, if_false]
        rw [e_Md_saturated_68]
        refine hG h hk0 hcn _ ?_ ?_ ?_ ?_ ?_ ?_ ?_
        · refine md_fr_sa2 ?_ (by decide) (by decide) (by decide) (Nat.le_refl f)
          refine md_fr_sa2 ?_ (by decide) (by decide) (by decide) (Nat.le_refl f)
          refine md_fr_si2 ?_ (by decide)
          exact md_fr_sa2 f1 (by decide) (by decide) (by decide) (Nat.le_refl f)
        · exact ⟨f2.1, f2.2.1, rfl, f2.2.2.2⟩
        · exact ⟨fun l hl => f3.1 l hl, f3.2⟩
        · exact a30
        · simp [md_sa_2, upd_a]
        · simp [md_sa_2, upd_a]
        · simp [md_sa_2, md_si_2, upd_a]
/-- the loop that keeps the first branch's row -/
def md_fk (σ : md_S) (f v : Nat) : md_S := md_fi σ 28 (fun j => σ.2 26 (j + 240)) (240 * f) (240 * f + v)
theorem c_ph3_loop {f : Nat} {dp : Int32} (h3 : σ.1 3 = nI n) (hn : n ≤ 120) (hf : f < 5) : ∀ (m v : Nat), v + m = 2 * n → (ev_R X d m_Md_saturated 183 [some (.ref B), some (.int dp), some (.int (nI f)), some (.int (nI v))] [] (md_put B (md_fk σ f v) g) Q ↔ ev_R X d m_Md_saturated 225 [some (.ref B), some (.int dp), some (.int (nI f)), some (.int (nI (2 * n)))] [] (md_put B (md_fk σ f (2 * n)) g) Q) := by
  intro m
  have k1 : ∀ v, (md_fk σ f v).1 = σ.1 := fun _ => rfl
  have k2 : ∀ v, (md_fk σ f v).2 26 = σ.2 26 := fun _ => rfl
  induction m with
  | zero =>
    intro v hv
    have e : v = 2 * n := by omega
    subst e
    simp (disch := first | exact ev_ok_i _ | exact ev_ok_r _ | exact ev_ok_n | omega | assumption) only [e_Md_saturated_183, e_Md_saturated_184, e_Md_saturated_185, e_Md_saturated_186, e_Md_saturated_189, e_Md_saturated_190, ev_rm_n, ev_rm_i, ev_rm_r, ev_rm_l, ev_ok_n, ev_ok_i, ev_ok_r, Option.toList_some, Option.toList_none, List.cons_append, List.nil_append, true_and, and_true, true_or, or_true, reduceIte, Nat.reduceEqDiff, if_true, if_false, md_rc, md_si_1, md_si_2, md_sa_1, md_sa_2, mg_kind, mr_kind, mw_kind, mg_one, mr_one, mw_one, mg_two, mr_two, mw_two, mg_variables, mp_variables, mg_inputs, mp_inputs, mg_inputOf, mr_inputOf, mw_inputOf, mg_nameSign, mr_nameSign, mw_nameSign, mg_nameSize, mr_nameSize, mw_nameSize, mg_label, mr_label, mw_label, mg_isContrary, mp_isContrary, mg_text, mr_text, mw_text, mg_textSize, mp_textSize, mg_at, mp_at, mg_token, mp_token, mg_tokenAt, mp_tokenAt, mg_tokenSize, mp_tokenSize, mg_scanned, mp_scanned, mg_fault, mp_fault, mg_faultAt, mp_faultAt, mg_place, mp_place, mg_open, mp_open, mg_level, mr_level, mw_level, mg_stage, mr_stage, mw_stage, mg_held, mr_held, mw_held, mg_signPlace, mr_signPlace, mw_signPlace, mg_value, mp_value, mg_row, mr_row, mw_row, mg_contrary, mr_contrary, mw_contrary, mg_firstRow, mr_firstRow, mw_firstRow, mg_firstContrary, mr_firstContrary, mw_firstContrary, mg_depthOf, mr_depthOf, mw_depthOf, mg_phase, mr_phase, mw_phase, mg_tried, mr_tried, mw_tried, mg_before, mr_before, mw_before, mg_old, mr_old, mw_old, mg_steps, mp_steps, mg_mostSteps, mp_mostSteps, mg_rounds, mp_rounds, mg_passes, mp_passes, mg_branches, mp_branches, mg_worth, mr_worth, mw_worth, k1, h3, nL_2, nI_leI, Nat.le_refl]
  | succ m ih =>
    intro v hv
    have hih := ih (v + 1) (by omega)
    have hlt : ¬ 2 * n ≤ v := by omega
    have hs : md_sa (md_fk σ f v) 28 (240 * f + v) (σ.2 26 (240 * (f + 1) + v)) = md_fk σ f (v + 1) := md_fi_s σ 28 _ (Nat.le_add_right _ _) (by rw [show 240 * (f + 1) + v = 240 * f + v + 240 by omega])
    simp (disch := first | exact ev_ok_i _ | exact ev_ok_r _ | exact ev_ok_n | omega | assumption) only [e_Md_saturated_183, e_Md_saturated_184, e_Md_saturated_185, e_Md_saturated_186, e_Md_saturated_189, e_Md_saturated_190, e_Md_saturated_193, e_Md_saturated_194, e_Md_saturated_197, e_Md_saturated_200, e_Md_saturated_201, e_Md_saturated_202, e_Md_saturated_203, e_Md_saturated_204, e_Md_saturated_205, e_Md_saturated_208, e_Md_saturated_211, e_Md_saturated_212, e_Md_saturated_213, e_Md_saturated_214, e_Md_saturated_215, e_Md_saturated_216, e_Md_saturated_217, e_Md_saturated_218, e_Md_saturated_219, ev_rm_n, ev_rm_i, ev_rm_r, ev_rm_l, ev_ok_n, ev_ok_i, ev_ok_r, Option.toList_some, Option.toList_none, List.cons_append, List.nil_append, true_and, and_true, true_or, or_true, reduceIte, Nat.reduceEqDiff, if_true, if_false, md_rc, md_si_1, md_si_2, md_sa_1, md_sa_2, mg_kind, mr_kind, mw_kind, mg_one, mr_one, mw_one, mg_two, mr_two, mw_two, mg_variables, mp_variables, mg_inputs, mp_inputs, mg_inputOf, mr_inputOf, mw_inputOf, mg_nameSign, mr_nameSign, mw_nameSign, mg_nameSize, mr_nameSize, mw_nameSize, mg_label, mr_label, mw_label, mg_isContrary, mp_isContrary, mg_text, mr_text, mw_text, mg_textSize, mp_textSize, mg_at, mp_at, mg_token, mp_token, mg_tokenAt, mp_tokenAt, mg_tokenSize, mp_tokenSize, mg_scanned, mp_scanned, mg_fault, mp_fault, mg_faultAt, mp_faultAt, mg_place, mp_place, mg_open, mp_open, mg_level, mr_level, mw_level, mg_stage, mr_stage, mw_stage, mg_held, mr_held, mw_held, mg_signPlace, mr_signPlace, mw_signPlace, mg_value, mp_value, mg_row, mr_row, mw_row, mg_contrary, mr_contrary, mw_contrary, mg_firstRow, mr_firstRow, mw_firstRow, mg_firstContrary, mr_firstContrary, mw_firstContrary, mg_depthOf, mr_depthOf, mw_depthOf, mg_phase, mr_phase, mw_phase, mg_tried, mr_tried, mw_tried, mg_before, mr_before, mw_before, mg_old, mr_old, mw_old, mg_steps, mp_steps, mg_mostSteps, mp_mostSteps, mg_rounds, mp_rounds, mg_passes, mp_passes, mg_branches, mp_branches, mg_worth, mr_worth, mw_worth, k1, k2, h3, nL_2, nL_240, nI_add, nI_leI, hlt, xo_in, nI_clamp, nI_1]
    rw [e_Md_saturated_222, hs]
    exact hih
end M10
