/-! branches, free variables, what two branches agree on: the reference -/
def md_rw (σ : md_S) (n f : Nat) (E : sp_E) : Prop := (∀ l, l < 2 * n → σ.2 26 (240 * f + l) = nI (E.1 l)) ∧ σ.2 27 f = sp_zb E.2
def md_tt (σ : md_S) (t : Nat × Nat × Nat × Nat) : Prop := σ.1 35 = nI t.1 ∧ σ.1 37 = nI t.2.1 ∧ σ.1 38 = nI t.2.2.1 ∧ σ.1 39 = nI t.2.2.2
theorem md_wr_eq {σ : md_S} {n f : Nat} {E : sp_E} (h : md_rw σ n f E) : md_wr σ n f E = σ := by
  refine md_S_ext rfl (fun q j => ?_)
  unfold md_wr
  simp only [md_sa_2, md_fi_2]
  by_cases h27 : q = 27
  · subst h27
    simp only [if_true, Nat.reduceEqDiff, if_false, upd]
    split
    · rename_i e; rw [e, h.2]
    · rfl
  · by_cases h26 : q = 26
    · subst h26
      simp only [if_true, h27, if_false]
      split
      · rename_i e
        have := h.1 (j - 240 * f) (by omega)
        rw [show 240 * f + (j - 240 * f) = j by omega] at this
        exact this.symm
      · rfl
    · simp only [h27, h26, if_false]
theorem md_T_eq {σ : md_S} {t : Nat × Nat × Nat × Nat} (h : md_tt σ t) : md_T σ t (σ.2 34) = σ := by
  refine Prod.ext (funext fun k => ?_) (funext fun q => ?_)
  · rw [md_T_1]
    obtain ⟨h1, h2, h3, h4⟩ := h
    split
    · rename_i e; rw [e]; exact h4.symm
    · split
      · rename_i e; rw [e]; exact h3.symm
      · split
        · rename_i e; rw [e]; exact h2.symm
        · split
          · rename_i e; rw [e]; exact h1.symm
          · rfl
  · rw [md_T_2]
    split
    · rename_i e; rw [e]
    · rfl
/-- what stands below the frame f stays; tallies and scratch may change -/
def md_fr (σ σ2 : md_S) (f : Nat) : Prop := (∀ k, ¬ k = 35 → ¬ k = 37 → ¬ k = 38 → ¬ k = 39 → σ2.1 k = σ.1 k) ∧ (∀ q, (q < 26 ∨ 34 < q) → σ2.2 q = σ.2 q) ∧ (∀ q j, (q = 26 ∨ q = 28) → j < 240 * f → σ2.2 q j = σ.2 q j) ∧ (∀ q j, (q = 27 ∨ 29 ≤ q ∧ q ≤ 33) → j < f → σ2.2 q j = σ.2 q j)
theorem md_fr_rf (σ : md_S) (f : Nat) : md_fr σ σ f := ⟨fun _ _ _ _ _ => rfl, fun _ _ => rfl, fun _ _ _ _ => rfl, fun _ _ _ _ => rfl⟩
theorem md_fr_tr {σ σ2 σ3 : md_S} {f f2 : Nat} (h : md_fr σ σ2 f) (h2 : md_fr σ2 σ3 f2) (hf : f ≤ f2) : md_fr σ σ3 f :=
  ⟨fun k a b c e => (h2.1 k a b c e).trans (h.1 k a b c e), fun q hq => (h2.2.1 q hq).trans (h.2.1 q hq), fun q j hq hj => (h2.2.2.1 q j hq (by omega)).trans (h.2.2.1 q j hq hj), fun q j hq hj => (h2.2.2.2 q j hq (by omega)).trans (h.2.2.2 q j hq hj)⟩
theorem md_fr_sa (σ : md_S) {f q j : Nat} (v : Int32) (h1 : 27 ≤ q) (h2 : q ≤ 33) (h3 : ¬ q = 28) (hj : f ≤ j) : md_fr σ (md_sa σ q j v) f := by
  refine ⟨fun _ _ _ _ _ => rfl, fun k hk => ?_, fun k i hk hi => ?_, fun k i hk hi => ?_⟩
  · rw [md_sa_2, if_neg (by omega)]
  · rw [md_sa_2]
    split
    · omega
    · rfl
  · rw [md_sa_2]
    split
    · rename_i e; subst e
      rw [pk_un (by omega)]
    · rfl
theorem md_fr_wr (σ : md_S) {n f f2 : Nat} (E : sp_E) (h : f ≤ f2) : md_fr σ (md_wr σ n f2 E) f := by
  refine ⟨fun _ _ _ _ _ => rfl, fun k hk => md_wr_2 σ n f2 E (by omega) (by omega), fun k i hk hi => ?_, fun k i hk hi => ?_⟩
  · unfold md_wr
    rw [md_sa_2, if_neg (by omega), md_fi_2]
    split
    · rename_i e; subst e
      dsimp only
      rw [if_neg (by omega)]
    · rfl
  · by_cases h27 : k = 27
    · subst h27
      exact md_wr_c2 σ E (by omega)
    · rw [md_wr_2 σ n f2 E (by omega) h27]
theorem md_fr_T (σ : md_S) (f : Nat) (t : Nat × Nat × Nat × Nat) (o : Nat → Int32) : md_fr σ (md_T σ t o) f := by
  refine ⟨fun k a b c e => ?_, fun q hq => ?_, fun q j hq _ => ?_, fun q j hq _ => ?_⟩
  · rw [md_T_1, if_neg e, if_neg c, if_neg b, if_neg a]
  · rw [md_T_2, if_neg (by omega)]
  · rw [md_T_2, if_neg (by omega)]
  · rw [md_T_2, if_neg (by omega)]
theorem vp_zb (b : Bool) : vp_nar .boolean (sp_zb b) = sp_zb b := by cases b <;> decide +kernel
/-- a row copied -/
theorem md_cr_wr {σ : md_S} {n f t : Nat} {E : sp_E} (h : md_rw σ n f E) : md_sa (md_cr σ n f t (2 * n)) 27 t (vp_nar .boolean (σ.2 27 f)) = md_wr σ n t E := by
  rw [h.2, vp_zb]
  unfold md_cr md_wr
  refine md_S_ext rfl (fun q j => ?_)
  simp only [md_sa_2, md_fi_2]
  by_cases h27 : q = 27
  · subst h27
    simp
  · by_cases h26 : q = 26
    · subst h26
      simp only [if_true, h27, if_false]
      split
      · rename_i e
        exact h.1 (j - 240 * t) (by omega)
      · rfl
    · simp [h27, h26]
section M7
variable {X : xo_X} {d B : Nat} {σ : md_S} {g : xo_G} {Q : Option Value → xo_G → Prop}
theorem c_branch {n f v k b : Nat} (h1 : σ.1 3 = nI n) (hn : n ≤ 120) (hf : f < 5) {E : sp_E} (hE : sp_bd n E) (hr : md_rw σ n f E) (hv : σ.2 32 f = nI v) (hvn : v < n) (hk : σ.2 30 f = nI (k + 1)) (hb : b < 2) : ev_C X (d + 2) m_Md_branch [.ref B, .int (nI f), .int (nI b)] (md_put B σ g) Q ↔ Q none (md_put B (md_sa (md_sa (md_wr σ n (f + 1) (sp_j E (2 * v) b)) 30 (f + 1) (nI k)) 31 (f + 1) 0) g) := by
  show ev_R X (d + 2) m_Md_branch 0 [some (.ref B), some (.int (nI f)), some (.int (nI b))] [] (md_put B σ g) Q ↔ _
  have hcp := fun Q => c_copyRow (X := X) (d := d + 1) (B := B) (g := g) (Q := Q) (σ := σ) (f := f) (t := f + 1) h1 hn (by omega) (by omega) (by omega)
  have hj := fun Q => c_join2 (X := X) (d := d) (B := B) (g := g) (Q := Q) (σ := σ) (f := f + 1) (a := 2 * v) (b := b) h1 hn (by omega) hE (by omega) (by omega)
  rw [md_cr_wr hr] at hcp
  have k32 : ∀ E : sp_E, (md_wr σ n (f + 1) E).2 32 f = nI v := fun E => by rw [md_wr_2 σ n (f + 1) E (by decide) (by decide)]; exact hv
  have k30 : ∀ E : sp_E, (md_wr σ n (f + 1) E).2 30 f = nI (k + 1) := fun E => by rw [md_wr_2 σ n (f + 1) E (by decide) (by decide)]; exact hk
  simp (disch := first | exact ev_ok_i _ | exact ev_ok_r _ | exact ev_ok_n | omega | assumption) only [e_Md_branch_0, e_Md_branch_1, e_Md_branch_2, e_Md_branch_3, e_Md_branch_4, e_Md_branch_5, e_Md_branch_8, e_Md_branch_9, e_Md_branch_10, e_Md_branch_11, e_Md_branch_12, e_Md_branch_13, e_Md_branch_14, e_Md_branch_17, e_Md_branch_18, e_Md_branch_19, e_Md_branch_20, e_Md_branch_21, e_Md_branch_24, e_Md_branch_25, e_Md_branch_28, e_Md_branch_29, e_Md_branch_30, e_Md_branch_31, e_Md_branch_32, e_Md_branch_35, e_Md_branch_36, e_Md_branch_37, e_Md_branch_38, e_Md_branch_39, e_Md_branch_40, e_Md_branch_41, e_Md_branch_44, e_Md_branch_45, e_Md_branch_46, e_Md_branch_47, e_Md_branch_48, e_Md_branch_49, ev_rm_n, ev_rm_i, ev_rm_r, ev_rm_l, ev_ok_n, ev_ok_i, ev_ok_r, Option.toList_some, Option.toList_none, List.cons_append, List.nil_append, true_and, and_true, true_or, or_true, reduceIte, Nat.reduceEqDiff, if_true, if_false, md_rc, md_si_1, md_si_2, md_sa_1, md_sa_2, mg_kind, mr_kind, mw_kind, mg_one, mr_one, mw_one, mg_two, mr_two, mw_two, mg_variables, mp_variables, mg_inputs, mp_inputs, mg_inputOf, mr_inputOf, mw_inputOf, mg_nameSign, mr_nameSign, mw_nameSign, mg_nameSize, mr_nameSize, mw_nameSize, mg_label, mr_label, mw_label, mg_isContrary, mp_isContrary, mg_text, mr_text, mw_text, mg_textSize, mp_textSize, mg_at, mp_at, mg_token, mp_token, mg_tokenAt, mp_tokenAt, mg_tokenSize, mp_tokenSize, mg_scanned, mp_scanned, mg_fault, mp_fault, mg_faultAt, mp_faultAt, mg_place, mp_place, mg_open, mp_open, mg_level, mr_level, mw_level, mg_stage, mr_stage, mw_stage, mg_held, mr_held, mw_held, mg_signPlace, mr_signPlace, mw_signPlace, mg_value, mp_value, mg_row, mr_row, mw_row, mg_contrary, mr_contrary, mw_contrary, mg_firstRow, mr_firstRow, mw_firstRow, mg_firstContrary, mr_firstContrary, mw_firstContrary, mg_depthOf, mr_depthOf, mw_depthOf, mg_phase, mr_phase, mw_phase, mg_tried, mr_tried, mw_tried, mg_before, mr_before, mw_before, mg_old, mr_old, mw_old, mg_steps, mp_steps, mg_mostSteps, mp_mostSteps, mg_rounds, mp_rounds, mg_passes, mp_passes, mg_branches, mp_branches, mg_worth, mr_worth, mw_worth, nI_1, hcp, k32, xo_in, nI_clamp, nL_2, hj, k30, nI_pred]
/-- v is neither of the class of 0 nor of that of 1 -/
abbrev sp_fr (E : sp_E) (v : Nat) : Prop := ¬ (E.1 (2 * v) = E.1 0 ∨ E.1 (2 * v) = E.1 1)
theorem c_nextFree {n f v : Nat} (h1 : σ.1 3 = nI n) (h0 : 1 ≤ n) (hn : n ≤ 120) (hf : f < 6) {E : sp_E} (hE : sp_bd n E) (hr : md_rw σ n f E) (hv : σ.2 32 f = nI v) (hvn : v ≤ n) : (v = n ∨ sp_fr E v → (ev_C X d m_Md_nextFree [.ref B, .int (nI f)] (md_put B σ g) Q ↔ Q none (md_put B σ g))) ∧ (v < n → ¬ sp_fr E v → (ev_C X d m_Md_nextFree [.ref B, .int (nI f)] (md_put B σ g) Q ↔ ev_C X d m_Md_nextFree [.ref B, .int (nI f)] (md_put B (md_sa σ 32 f (nI (v + 1))) g) Q)) := by
  have e0 : ∀ σ2 : md_S, ev_C X d m_Md_nextFree [.ref B, .int (nI f)] (md_put B σ2 g) Q ↔ ev_R X d m_Md_nextFree 6 [some (.ref B), some (.int (nI f)), some (.int (nI (240 * f)))] [] (md_put B σ2 g) Q := fun σ2 => by
    show ev_R X d m_Md_nextFree 0 [some (.ref B), some (.int (nI f)), none] [] (md_put B σ2 g) Q ↔ _
    simp (disch := first | exact ev_ok_i _ | exact ev_ok_r _ | exact ev_ok_n | omega | assumption) only [e_Md_nextFree_0, e_Md_nextFree_3, e_Md_nextFree_4, e_Md_nextFree_5, ev_rm_n, ev_rm_i, ev_rm_r, ev_rm_l, ev_ok_n, ev_ok_i, ev_ok_r, Option.toList_some, Option.toList_none, List.cons_append, List.nil_append, true_and, and_true, true_or, or_true, reduceIte, Nat.reduceEqDiff, if_true, if_false, nL_240]
  have r0 : v < n → σ.2 26 (240 * f) = nI (E.1 0) := fun _ => hr.1 0 (by omega)
  have r1 : v < n → σ.2 26 (240 * f + 1) = nI (E.1 1) := fun _ => hr.1 1 (by omega)
  have rv : v < n → σ.2 26 (240 * f + 2 * v) = nI (E.1 (2 * v)) := fun h => hr.1 (2 * v) (by omega)
  by_cases hvn2 : v < n
  · have b0 := hE 0 (by omega)
    have b1 := hE 1 (by omega)
    have b2 := hE (2 * v) (by omega)
    have hnl : ¬ n ≤ v := by omega
    have key : ev_R X d m_Md_nextFree 6 [some (.ref B), some (.int (nI f)), some (.int (nI (240 * f)))] [] (md_put B σ g) Q ↔ if sp_fr E v then Q none (md_put B σ g) else ev_R X d m_Md_nextFree 6 [some (.ref B), some (.int (nI f)), some (.int (nI (240 * f)))] [] (md_put B (md_sa σ 32 f (nI (v + 1))) g) Q := by
      have e79 := @e_Md_nextFree_79 X d [some (.ref B), some (.int (nI f)), some (.int (nI (240 * f)))] [] (md_put B (md_sa σ 32 f (nI (v + 1))) g) Q
      rw [← e79]
      simp (disch := first | exact ev_ok_i _ | exact ev_ok_r _ | exact ev_ok_n | omega | assumption) only [e_Md_nextFree_6, e_Md_nextFree_7, e_Md_nextFree_10, e_Md_nextFree_11, e_Md_nextFree_12, e_Md_nextFree_13, e_Md_nextFree_16, e_Md_nextFree_19, e_Md_nextFree_20, e_Md_nextFree_23, e_Md_nextFree_24, e_Md_nextFree_25, e_Md_nextFree_26, e_Md_nextFree_29, e_Md_nextFree_30, e_Md_nextFree_31, e_Md_nextFree_32, e_Md_nextFree_33, e_Md_nextFree_34, e_Md_nextFree_35, e_Md_nextFree_38, e_Md_nextFree_39, e_Md_nextFree_40, e_Md_nextFree_43, e_Md_nextFree_44, e_Md_nextFree_47, e_Md_nextFree_48, e_Md_nextFree_49, e_Md_nextFree_50, e_Md_nextFree_53, e_Md_nextFree_54, e_Md_nextFree_55, e_Md_nextFree_56, e_Md_nextFree_57, e_Md_nextFree_58, e_Md_nextFree_59, e_Md_nextFree_62, e_Md_nextFree_63, e_Md_nextFree_64, e_Md_nextFree_65, e_Md_nextFree_66, e_Md_nextFree_69, e_Md_nextFree_70, e_Md_nextFree_73, e_Md_nextFree_74, e_Md_nextFree_75, e_Md_nextFree_76, e_Md_nextFree_77, e_Md_nextFree_78, e_Md_nextFree_82, ev_rm_n, ev_rm_i, ev_rm_r, ev_rm_l, ev_ok_n, ev_ok_i, ev_ok_r, Option.toList_some, Option.toList_none, List.cons_append, List.nil_append, true_and, and_true, true_or, or_true, reduceIte, Nat.reduceEqDiff, if_true, if_false, md_rc, md_si_1, md_si_2, md_sa_1, md_sa_2, mg_kind, mr_kind, mw_kind, mg_one, mr_one, mw_one, mg_two, mr_two, mw_two, mg_variables, mp_variables, mg_inputs, mp_inputs, mg_inputOf, mr_inputOf, mw_inputOf, mg_nameSign, mr_nameSign, mw_nameSign, mg_nameSize, mr_nameSize, mw_nameSize, mg_label, mr_label, mw_label, mg_isContrary, mp_isContrary, mg_text, mr_text, mw_text, mg_textSize, mp_textSize, mg_at, mp_at, mg_token, mp_token, mg_tokenAt, mp_tokenAt, mg_tokenSize, mp_tokenSize, mg_scanned, mp_scanned, mg_fault, mp_fault, mg_faultAt, mp_faultAt, mg_place, mp_place, mg_open, mp_open, mg_level, mr_level, mw_level, mg_stage, mr_stage, mw_stage, mg_held, mr_held, mw_held, mg_signPlace, mr_signPlace, mw_signPlace, mg_value, mp_value, mg_row, mr_row, mw_row, mg_contrary, mr_contrary, mw_contrary, mg_firstRow, mr_firstRow, mw_firstRow, mg_firstContrary, mr_firstContrary, mw_firstContrary, mg_depthOf, mr_depthOf, mw_depthOf, mg_phase, mr_phase, mw_phase, mg_tried, mr_tried, mw_tried, mg_before, mr_before, mw_before, mg_old, mr_old, mw_old, mg_steps, mp_steps, mg_mostSteps, mp_mostSteps, mg_rounds, mp_rounds, mg_passes, mp_passes, mg_branches, mp_branches, mg_worth, mr_worth, mw_worth, h1, hv, nI_leI, hnl, xo_in, nI_clamp, nL_2, nI_add, nI_1, r0 hvn2, r1 hvn2, rv hvn2, nI_eq]
      unfold sp_fr
      by_cases c1 : E.1 (2 * v) = E.1 0
      · simp [c1]
      · by_cases c2 : E.1 (2 * v) = E.1 1
        · simp [c1, c2]
        · simp [c1, c2]
    refine ⟨fun h => ?_, fun _ h => ?_⟩
    · rcases h with h | h
      · omega
      · rw [e0, key, if_pos h]
    · rw [e0, key, if_neg h, ← e0]
  · have hve : v = n := by omega
    subst hve
    refine ⟨fun _ => ?_, fun h => absurd h (by omega)⟩
    rw [e0]
    simp (disch := first | exact ev_ok_i _ | exact ev_ok_r _ | exact ev_ok_n | omega | assumption) only [e_Md_nextFree_6, e_Md_nextFree_7, e_Md_nextFree_10, e_Md_nextFree_11, e_Md_nextFree_12, e_Md_nextFree_13, e_Md_nextFree_16, e_Md_nextFree_82, ev_rm_n, ev_rm_i, ev_rm_r, ev_rm_l, ev_ok_n, ev_ok_i, ev_ok_r, Option.toList_some, Option.toList_none, List.cons_append, List.nil_append, true_and, and_true, true_or, or_true, reduceIte, Nat.reduceEqDiff, if_true, if_false, md_rc, md_si_1, md_si_2, md_sa_1, md_sa_2, mg_kind, mr_kind, mw_kind, mg_one, mr_one, mw_one, mg_two, mr_two, mw_two, mg_variables, mp_variables, mg_inputs, mp_inputs, mg_inputOf, mr_inputOf, mw_inputOf, mg_nameSign, mr_nameSign, mw_nameSign, mg_nameSize, mr_nameSize, mw_nameSize, mg_label, mr_label, mw_label, mg_isContrary, mp_isContrary, mg_text, mr_text, mw_text, mg_textSize, mp_textSize, mg_at, mp_at, mg_token, mp_token, mg_tokenAt, mp_tokenAt, mg_tokenSize, mp_tokenSize, mg_scanned, mp_scanned, mg_fault, mp_fault, mg_faultAt, mp_faultAt, mg_place, mp_place, mg_open, mp_open, mg_level, mr_level, mw_level, mg_stage, mr_stage, mw_stage, mg_held, mr_held, mw_held, mg_signPlace, mr_signPlace, mw_signPlace, mg_value, mp_value, mg_row, mr_row, mw_row, mg_contrary, mr_contrary, mw_contrary, mg_firstRow, mr_firstRow, mw_firstRow, mg_firstContrary, mr_firstContrary, mw_firstContrary, mg_depthOf, mr_depthOf, mw_depthOf, mg_phase, mr_phase, mw_phase, mg_tried, mr_tried, mw_tried, mg_before, mr_before, mw_before, mg_old, mr_old, mw_old, mg_steps, mp_steps, mg_mostSteps, mp_mostSteps, mg_rounds, mp_rounds, mg_passes, mp_passes, mg_branches, mp_branches, mg_worth, mr_worth, mw_worth, h1, hv, nI_leI, xo_in, nI_clamp, Nat.le_refl]
theorem c_beginPass {n f : Nat} (h1 : σ.1 3 = nI n) (hn : n ≤ 120) (hf : f < 6) {E : sp_E} (hE : sp_bd n E) (hr : md_rw σ n f E) {t : Nat × Nat × Nat × Nat} (ht : md_tt σ t) : ev_C X (d + 1) m_Md_beginPass [.ref B, .int (nI f)] (md_put B σ g) Q ↔ Q none (md_put B (md_sa (md_sa (md_si (md_sa σ 33 f (nI (sp_cn n E))) 38 (nI (t.2.2.1 + 1))) 32 f 1) 31 f 2) g) := by
  show ev_R X (d + 1) m_Md_beginPass 0 [some (.ref B), some (.int (nI f))] [] (md_put B σ g) Q ↔ _
  have hcl := fun Q => c_classesT (X := X) (d := d) (B := B) (g := g) (Q := Q) (σ := σ) (f := f) h1 hn hf hE
  rw [md_wr_eq hr] at hcl
  have k38 : σ.1 38 = nI t.2.2.1 := ht.2.2.1
  simp (disch := first | exact ev_ok_i _ | exact ev_ok_r _ | exact ev_ok_n | omega | assumption) only [e_Md_beginPass_0, e_Md_beginPass_1, e_Md_beginPass_4, e_Md_beginPass_5, e_Md_beginPass_6, e_Md_beginPass_7, e_Md_beginPass_10, e_Md_beginPass_11, e_Md_beginPass_12, e_Md_beginPass_13, e_Md_beginPass_16, e_Md_beginPass_17, e_Md_beginPass_18, e_Md_beginPass_21, e_Md_beginPass_22, e_Md_beginPass_25, e_Md_beginPass_26, e_Md_beginPass_27, e_Md_beginPass_28, e_Md_beginPass_29, e_Md_beginPass_32, e_Md_beginPass_33, e_Md_beginPass_34, e_Md_beginPass_35, ev_rm_n, ev_rm_i, ev_rm_r, ev_rm_l, ev_ok_n, ev_ok_i, ev_ok_r, Option.toList_some, Option.toList_none, List.cons_append, List.nil_append, true_and, and_true, true_or, or_true, reduceIte, Nat.reduceEqDiff, if_true, if_false, md_rc, md_si_1, md_si_2, md_sa_1, md_sa_2, mg_kind, mr_kind, mw_kind, mg_one, mr_one, mw_one, mg_two, mr_two, mw_two, mg_variables, mp_variables, mg_inputs, mp_inputs, mg_inputOf, mr_inputOf, mw_inputOf, mg_nameSign, mr_nameSign, mw_nameSign, mg_nameSize, mr_nameSize, mw_nameSize, mg_label, mr_label, mw_label, mg_isContrary, mp_isContrary, mg_text, mr_text, mw_text, mg_textSize, mp_textSize, mg_at, mp_at, mg_token, mp_token, mg_tokenAt, mp_tokenAt, mg_tokenSize, mp_tokenSize, mg_scanned, mp_scanned, mg_fault, mp_fault, mg_faultAt, mp_faultAt, mg_place, mp_place, mg_open, mp_open, mg_level, mr_level, mw_level, mg_stage, mr_stage, mw_stage, mg_held, mr_held, mw_held, mg_signPlace, mr_signPlace, mw_signPlace, mg_value, mp_value, mg_row, mr_row, mw_row, mg_contrary, mr_contrary, mw_contrary, mg_firstRow, mr_firstRow, mw_firstRow, mg_firstContrary, mr_firstContrary, mw_firstContrary, mg_depthOf, mr_depthOf, mw_depthOf, mg_phase, mr_phase, mw_phase, mg_tried, mr_tried, mw_tried, mg_before, mr_before, mw_before, mg_old, mr_old, mw_old, mg_steps, mp_steps, mg_mostSteps, mp_mostSteps, mg_rounds, mp_rounds, mg_passes, mp_passes, mg_branches, mp_branches, mg_worth, mr_worth, mw_worth, hcl, xo_in, nI_clamp, k38, nI_1]
end M7
