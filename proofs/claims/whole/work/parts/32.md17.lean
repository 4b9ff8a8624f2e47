/-! variables and gates of the specification; the reference's gate -/
def sp_add (c : sp_C) (k a b : Nat) : sp_C := (cN c + 1, va_up (cK c) (cN c) k, va_up (cA c) (cN c) a, va_up (cB c) (cN c) b, cI c, cV c, cM c, cS c)
/-- a gate that there is, or that is made -/
def sp_gt (c : sp_C) (k a b : Nat) : Option Nat × sp_C := match sp_fd (fun v => cK c v == k && cA c v == sp_mn a b && cB c v == sp_mx a b) 1 (cN c - 1) with
  | some v => (some (2 * v), c)
  | none => if cN c = 120 then (none, c) else (some (2 * cN c), sp_add c k (sp_mn a b) (sp_mx a b))
/-- new variables are alone -/
def sp_grow (E : sp_E) (n : Nat) : sp_E := (fun l => if l < 2 * n then E.1 l else l, E.2)
theorem sp_grow_va {E : sp_E} {n m : Nat} (h : sp_va n E) (hm : n ≤ m) : sp_va m (sp_grow E n) := by
  intro l hl
  unfold sp_grow
  dsimp only
  by_cases c : l < 2 * n
  · obtain ⟨h1, h2, h3⟩ := h l c
    rw [if_pos c, if_pos (by omega), if_pos (xor1_lt c)]
    exact ⟨h1, h2, h3⟩
  · have c2 : ¬ l ^^^ 1 < 2 * n := fun z => by
      have := xor1_lt z
      rw [x1_x1] at this
      omega
    rw [if_neg c, if_neg c, if_neg c2]
    exact ⟨Nat.le_refl l, rfl, rfl⟩
theorem sp_add_ok {c : sp_C} {k a b : Nat} (h : sp_cok c) (hn : cN c < 120) (hk : (k = 2 ∨ k = 3) ∧ a < 2 * cN c ∧ b < 2 * cN c) : sp_cok (sp_add c k a b) := by
  obtain ⟨⟨h1, h2, h3⟩, h4, h5, h6⟩ := h
  refine ⟨⟨by show 1 ≤ cN c + 1; omega, by show cN c + 1 ≤ 120; omega, h3⟩, fun v v1 v2 => ?_, ?_, fun i hi => ⟨by show cV c i < cN c + 1; have := (h6 i hi).1; omega, (h6 i hi).2⟩⟩
  · have v3 : v < cN c + 1 := v2
    show (va_up (cK c) (cN c) k v = 1 ∧ va_up (cA c) (cN c) a v < cI c ∧ va_up (cB c) (cN c) b v = 0) ∨ ((va_up (cK c) (cN c) k v = 2 ∨ va_up (cK c) (cN c) k v = 3) ∧ va_up (cA c) (cN c) a v < 2 * v ∧ va_up (cB c) (cN c) b v < 2 * v)
    by_cases e : v = cN c
    · subst e
      rw [va_up_self, va_up_self, va_up_self]
      exact Or.inr hk
    · rw [va_up_ne _ _ e, va_up_ne _ _ e, va_up_ne _ _ e]
      exact h4 v v1 (by omega)
  · have e : 0 ≠ cN c := by omega
    show va_up (cK c) (cN c) k 0 = 0 ∧ va_up (cA c) (cN c) a 0 = 0 ∧ va_up (cB c) (cN c) b 0 = 0
    rw [va_up_ne _ _ e, va_up_ne _ _ e, va_up_ne _ _ e]
    exact h5
theorem sp_mx_lt {a b c : Nat} (ha : a < c) (hb : b < c) : sp_mx a b < c := by unfold sp_mx; split <;> assumption
theorem sp_gt_ok {c : sp_C} {k a b : Nat} (h : sp_cok c) (hk : k = 2 ∨ k = 3) (ha : a < 2 * cN c) (hb : b < 2 * cN c) : sp_cok (sp_gt c k a b).2 ∧ cN c ≤ cN (sp_gt c k a b).2 ∧ ∀ l, (sp_gt c k a b).1 = some l → l < 2 * cN (sp_gt c k a b).2 := by
  unfold sp_gt
  split
  · rename_i v hv
    have := sp_fd_lt _ _ _ hv
    refine ⟨h, Nat.le_refl _, fun l hl => ?_⟩
    cases hl
    show 2 * v < 2 * cN c
    omega
  · split
    · exact ⟨h, Nat.le_refl _, fun l hl => by cases hl⟩
    · rename_i hn
      refine ⟨sp_add_ok h (by have := h.1.2.1; omega) ⟨hk, sp_mn_lt ha hb, sp_mx_lt ha hb⟩, Nat.le_succ _, fun l hl => ?_⟩
      cases hl
      show 2 * cN c < 2 * (cN c + 1)
      omega
/-- the reference's new variable -/
theorem md_nv_R {σ : md_S} {c : sp_C} {E : sp_E} {n0 k a b : Nat} (hc : md_cR σ c) (he : md_eR σ (cN c) (sp_grow E n0)) (hn0 : n0 ≤ cN c) (hn : cN c < 120) (hk : k < 2 ^ 31) (ha : a < 2 ^ 31) (hb : b < 2 ^ 31) : md_cR (md_nv σ (cN c) (nI k) (nI a) (nI b)) (sp_add c k a b) ∧ md_eR (md_nv σ (cN c) (nI k) (nI a) (nI b)) (cN c + 1) (sp_grow E n0) := by
  have e0 : (md_nv σ (cN c) (nI k) (nI a) (nI b)).2 0 = upd (σ.2 0) (cN c) (nI k) := rfl
  have e1 : (md_nv σ (cN c) (nI k) (nI a) (nI b)).2 1 = upd (σ.2 1) (cN c) (nI a) := rfl
  have e2 : (md_nv σ (cN c) (nI k) (nI a) (nI b)).2 2 = upd (σ.2 2) (cN c) (nI b) := rfl
  have e8 : (md_nv σ (cN c) (nI k) (nI a) (nI b)).2 8 = upd (upd (σ.2 8) (2 * cN c) (nI (2 * cN c))) (2 * cN c + 1) (nI (2 * cN c + 1)) := rfl
  refine ⟨⟨⟨rfl, Nat.le_succ_of_le hc.1.2.1, hn, fun v hv => ?_⟩, hc.2.1, fun i hi => hc.2.2 i hi⟩, fun l hl => ?_, he.2⟩
  · have hv2 : v < cN c + 1 := hv
    rw [e0, e1, e2]
    show upd (σ.2 0) (cN c) (nI k) v = nI (va_up (cK c) (cN c) k v) ∧ upd (σ.2 1) (cN c) (nI a) v = nI (va_up (cA c) (cN c) a v) ∧ upd (σ.2 2) (cN c) (nI b) v = nI (va_up (cB c) (cN c) b v) ∧ va_up (cK c) (cN c) k v < 2 ^ 31 ∧ va_up (cA c) (cN c) a v < 2 ^ 31 ∧ va_up (cB c) (cN c) b v < 2 ^ 31
    by_cases e : v = cN c
    · subst e
      rw [va_up_self, va_up_self, va_up_self, pk_us, pk_us, pk_us]
      exact ⟨rfl, rfl, rfl, hk, ha, hb⟩
    · rw [va_up_ne _ _ e, va_up_ne _ _ e, va_up_ne _ _ e, pk_un e, pk_un e, pk_un e]
      exact hc.1.2.2.2 v (by omega)
  · rw [e8]
    by_cases l1 : l = 2 * cN c + 1
    · subst l1
      rw [pk_us]
      unfold sp_grow
      dsimp only
      rw [if_neg (by omega)]
    · rw [pk_un l1]
      by_cases l2 : l = 2 * cN c
      · subst l2
        rw [pk_us]
        unfold sp_grow
        dsimp only
        rw [if_neg (by omega)]
      · rw [pk_un l2]
        exact he.1 l (by omega)
/-- what stays when a variable is made -/
theorem md_nv_o (σ : md_S) (n : Nat) (k a b : Int32) : (∀ j, ¬ j = 3 → (md_nv σ n k a b).1 j = σ.1 j) ∧ ∀ q, 8 < q → (md_nv σ n k a b).2 q = σ.2 q := by
  refine ⟨fun j hj => ?_, fun q hq => ?_⟩
  · unfold md_nv
    rw [md_si_1, if_neg hj]
    rfl
  · unfold md_nv
    rw [md_si_2]
    simp only [md_sa_2]
    rw [if_neg (by omega), if_neg (by omega), if_neg (by omega), if_neg (by omega), if_neg (by omega)]
/-- all but the circuit and the labels -/
def md_ot (σ σ2 : md_S) : Prop := (∀ j, ¬ j = 3 → ¬ j = 4 → σ2.1 j = σ.1 j) ∧ ∀ q, 8 < q → σ2.2 q = σ.2 q
theorem md_ot_rf (σ : md_S) : md_ot σ σ := ⟨fun _ _ _ => rfl, fun _ _ => rfl⟩
theorem md_ot_tr {σ σ2 σ3 : md_S} (h : md_ot σ σ2) (h2 : md_ot σ2 σ3) : md_ot σ σ3 := ⟨fun j a b => (h2.1 j a b).trans (h.1 j a b), fun q hq => (h2.2 q hq).trans (h.2 q hq)⟩
theorem md_gate_R {σ : md_S} {c : sp_C} {E : sp_E} {n0 k a b : Nat} (hc : md_cR σ c) (he : md_eR σ (cN c) (sp_grow E n0)) (hn0 : n0 ≤ cN c) (hk : k < 2 ^ 31) (ha : a < 2 ^ 31) (hb : b < 2 ^ 31) : (md_gate σ (cN c) (cK c) (cA c) (cB c) k a b).1 = (match (sp_gt c k a b).1 with | some l => nI l | none => -1) ∧ md_cR (md_gate σ (cN c) (cK c) (cA c) (cB c) k a b).2 (sp_gt c k a b).2 ∧ md_eR (md_gate σ (cN c) (cK c) (cA c) (cB c) k a b).2 (cN (sp_gt c k a b).2) (sp_grow E n0) ∧ md_ot σ (md_gate σ (cN c) (cK c) (cA c) (cB c) k a b).2 := by
  unfold md_gate sp_gt
  generalize sp_fd (fun v => cK c v == k && cA c v == sp_mn a b && cB c v == sp_mx a b) 1 (cN c - 1) = r
  cases r with
  | some v => exact ⟨rfl, hc, he, md_ot_rf σ⟩
  | none =>
    dsimp only
    by_cases h120 : cN c = 120
    · rw [if_pos h120, if_pos h120]
      exact ⟨rfl, hc, he, md_ot_rf σ⟩
    · rw [if_neg h120, if_neg h120]
      have hlt : cN c < 120 := by have := hc.1.2.2.1; omega
      obtain ⟨r1, r2⟩ := md_nv_R (k := k) (a := sp_mn a b) (b := sp_mx a b) hc he hn0 hlt hk (by unfold sp_mn; split <;> assumption) (by unfold sp_mx; split <;> assumption)
      obtain ⟨o1, o2⟩ := md_nv_o σ (cN c) (nI k) (nI (sp_mn a b)) (nI (sp_mx a b))
      exact ⟨rfl, r1, r2, fun j h3 _ => o1 j h3, o2⟩
theorem md_eR_grow {σ : md_S} {n : Nat} {E : sp_E} (h : md_eR σ n E) : md_eR σ n (sp_grow E n) := by
  refine ⟨fun l hl => ?_, h.2⟩
  unfold sp_grow
  dsimp only
  rw [if_pos hl]
  exact h.1 l hl
def sp_gate (w : sp_W) (k a b : Int32) : Int32 × sp_W := match sp_lit (cN w.1) a, sp_lit (cN w.1) b with
  | some p, some q => if k = 2 ∨ k = 3 then (match (sp_gt w.1 k.toNatClampNeg p q).1 with
      | some l => nI l
      | none => -4, ((sp_gt w.1 k.toNatClampNeg p q).2, sp_grow w.2.1 (cN w.1), w.2.2)) else (-2, w)
  | _, _ => (-1, w)
section M17
variable {X : xo_X} {d B : Nat} {σ : md_S} {g : xo_G} {Q : Option Value → xo_G → Prop} {w : sp_W}
theorem md_xR_ot {σ σ2 : md_S} {x : sp_X} (h : md_ot σ σ2) (hR : md_xR σ x) : md_xR σ2 x := by
  unfold md_xR
  rw [h.1 11 (by decide) (by decide), h.2 10 (by decide)]
  exact hR
theorem md_tt_ot {σ σ2 : md_S} {t : sp_T} (h : md_ot σ σ2) (hR : md_tt σ t) : md_tt σ2 t := by
  unfold md_tt
  rw [h.1 35 (by decide) (by decide), h.1 37 (by decide) (by decide), h.1 38 (by decide) (by decide), h.1 39 (by decide) (by decide)]
  exact hR
theorem c_gate (hR : md_R σ w) (hw : sp_wok w) (k a b : Int32) (hQ : ∀ σ2, md_R σ2 (sp_gate w k a b).2 → Q (some (.int (sp_gate w k a b).1)) (md_put B σ2 g)) : ev_C X (d + 2) m_Md_gate [.ref B, .int k, .int a, .int b] (md_put B σ g) Q := by
  show ev_R X (d + 2) m_Md_gate 0 [some (.ref B), some (.int k), some (.int a), some (.int b), none] [] (md_put B σ g) Q
  have hn := hw.1.1.2.1
  have hv := fun x Q => c_isLiteral (X := X) (d := d + 1) (B := B) (g := g) (Q := Q) hR.1.1.1 hn x
  unfold sp_gate at hQ
  simp (disch := first | exact ev_ok_i _ | exact ev_ok_r _ | exact ev_ok_n | omega | assumption) only [e_Md_gate_0, e_Md_gate_1, e_Md_gate_2, e_Md_gate_5, ev_rm_n, ev_rm_i, ev_rm_r, ev_rm_l, ev_ok_n, ev_ok_i, ev_ok_r, Option.toList_some, Option.toList_none, List.cons_append, List.nil_append, true_and, and_true, true_or, or_true, reduceIte, Nat.reduceEqDiff, if_true, if_false, md_rc, md_si_1, md_si_2, md_sa_1, md_sa_2, mg_kind, mr_kind, mw_kind, mg_one, mr_one, mw_one, mg_two, mr_two, mw_two, mg_variables, mp_variables, mg_inputs, mp_inputs, mg_inputOf, mr_inputOf, mw_inputOf, mg_nameSign, mr_nameSign, mw_nameSign, mg_nameSize, mr_nameSize, mw_nameSize, mg_label, mr_label, mw_label, mg_isContrary, mp_isContrary, mg_text, mr_text, mw_text, mg_textSize, mp_textSize, mg_at, mp_at, mg_token, mp_token, mg_tokenAt, mp_tokenAt, mg_tokenSize, mp_tokenSize, mg_scanned, mp_scanned, mg_fault, mp_fault, mg_faultAt, mp_faultAt, mg_place, mp_place, mg_open, mp_open, mg_level, mr_level, mw_level, mg_stage, mr_stage, mw_stage, mg_held, mr_held, mw_held, mg_signPlace, mr_signPlace, mw_signPlace, mg_value, mp_value, mg_row, mr_row, mw_row, mg_contrary, mr_contrary, mw_contrary, mg_firstRow, mr_firstRow, mw_firstRow, mg_firstContrary, mr_firstContrary, mw_firstContrary, mg_depthOf, mr_depthOf, mw_depthOf, mg_phase, mr_phase, mw_phase, mg_tried, mr_tried, mw_tried, mg_before, mr_before, mw_before, mg_old, mr_old, mw_old, mg_steps, mp_steps, mg_mostSteps, mp_mostSteps, mg_rounds, mp_rounds, mg_passes, mp_passes, mg_branches, mp_branches, mg_worth, mr_worth, mw_worth, hv]
  cases ha : sp_lit (cN w.1) a with
  | none =>
    rw [ha] at hQ
    simp (disch := first | exact ev_ok_i _ | exact ev_ok_r _ | exact ev_ok_n | omega | assumption) only [e_Md_gate_16, e_Md_gate_17, ev_rm_n, ev_rm_i, ev_rm_r, ev_rm_l, ev_ok_n, ev_ok_i, ev_ok_r, Option.toList_some, Option.toList_none, List.cons_append, List.nil_append, true_and, and_true, true_or, or_true, reduceIte, Nat.reduceEqDiff, if_true, if_false]
    exact hQ σ hR
  | some p =>
    simp (disch := first | exact ev_ok_i _ | exact ev_ok_r _ | exact ev_ok_n | omega | assumption) only [e_Md_gate_8, e_Md_gate_9, e_Md_gate_10, e_Md_gate_13, ev_rm_n, ev_rm_i, ev_rm_r, ev_rm_l, ev_ok_n, ev_ok_i, ev_ok_r, Option.toList_some, Option.toList_none, List.cons_append, List.nil_append, true_and, and_true, true_or, or_true, reduceIte, Nat.reduceEqDiff, if_true, if_false, md_rc, md_si_1, md_si_2, md_sa_1, md_sa_2, mg_kind, mr_kind, mw_kind, mg_one, mr_one, mw_one, mg_two, mr_two, mw_two, mg_variables, mp_variables, mg_inputs, mp_inputs, mg_inputOf, mr_inputOf, mw_inputOf, mg_nameSign, mr_nameSign, mw_nameSign, mg_nameSize, mr_nameSize, mw_nameSize, mg_label, mr_label, mw_label, mg_isContrary, mp_isContrary, mg_text, mr_text, mw_text, mg_textSize, mp_textSize, mg_at, mp_at, mg_token, mp_token, mg_tokenAt, mp_tokenAt, mg_tokenSize, mp_tokenSize, mg_scanned, mp_scanned, mg_fault, mp_fault, mg_faultAt, mp_faultAt, mg_place, mp_place, mg_open, mp_open, mg_level, mr_level, mw_level, mg_stage, mr_stage, mw_stage, mg_held, mr_held, mw_held, mg_signPlace, mr_signPlace, mw_signPlace, mg_value, mp_value, mg_row, mr_row, mw_row, mg_contrary, mr_contrary, mw_contrary, mg_firstRow, mr_firstRow, mw_firstRow, mg_firstContrary, mr_firstContrary, mw_firstContrary, mg_depthOf, mr_depthOf, mw_depthOf, mg_phase, mr_phase, mw_phase, mg_tried, mr_tried, mw_tried, mg_before, mr_before, mw_before, mg_old, mr_old, mw_old, mg_steps, mp_steps, mg_mostSteps, mp_mostSteps, mg_rounds, mp_rounds, mg_passes, mp_passes, mg_branches, mp_branches, mg_worth, mr_worth, mw_worth, i_10, hv]
    cases hb : sp_lit (cN w.1) b with
    | none =>
      rw [ha, hb] at hQ
      simp (disch := first | exact ev_ok_i _ | exact ev_ok_r _ | exact ev_ok_n | omega | assumption) only [e_Md_gate_16, e_Md_gate_17, ev_rm_n, ev_rm_i, ev_rm_r, ev_rm_l, ev_ok_n, ev_ok_i, ev_ok_r, Option.toList_some, Option.toList_none, List.cons_append, List.nil_append, true_and, and_true, true_or, or_true, reduceIte, Nat.reduceEqDiff, if_true, if_false, not_true_eq_false]
      exact hQ σ hR
    | some q =>
      rw [ha, hb] at hQ
      dsimp only at hQ
      obtain ⟨rfl, hp⟩ := sp_lit_s ha
      obtain ⟨rfl, hq⟩ := sp_lit_s hb
      have key : ∀ kn : Nat, kn < 2 ^ 31 → (∀ σ2, md_R σ2 ((sp_gt w.1 kn p q).2, sp_grow w.2.1 (cN w.1), w.2.2) → Q (some (.int (match (sp_gt w.1 kn p q).1 with | some l => nI l | none => -4))) (md_put B σ2 g)) → ev_R X (d + 2) m_Md_gate 31 [some (.ref B), some (.int (nI kn)), some (.int (nI p)), some (.int (nI q)), none] [] (md_put B σ g) Q := by
        intro kn hkn hQ2
        have hg := fun Q => c_gateOf (X := X) (d := d) (B := B) (g := g) (Q := Q) (σ := σ) (k := kn) (a := p) (b := q) hR.1.1 hkn (by omega) (by omega)
        obtain ⟨r1, r2, r3, r4⟩ := md_gate_R (E := w.2.1) (n0 := cN w.1) (k := kn) (a := p) (b := q) hR.1 (md_eR_grow hR.2.1) (Nat.le_refl _) hkn (by omega) (by omega)
        rw [r1] at hg
        simp (disch := first | exact ev_ok_i _ | exact ev_ok_r _ | exact ev_ok_n | omega | assumption) only [e_Md_gate_31, e_Md_gate_32, e_Md_gate_33, e_Md_gate_34, e_Md_gate_35, e_Md_gate_38, e_Md_gate_40, e_Md_gate_42, ev_rm_n, ev_rm_i, ev_rm_r, ev_rm_l, ev_ok_n, ev_ok_i, ev_ok_r, Option.toList_some, Option.toList_none, List.cons_append, List.nil_append, true_and, and_true, true_or, or_true, reduceIte, Nat.reduceEqDiff, if_true, if_false, md_rc, md_si_1, md_si_2, md_sa_1, md_sa_2, mg_kind, mr_kind, mw_kind, mg_one, mr_one, mw_one, mg_two, mr_two, mw_two, mg_variables, mp_variables, mg_inputs, mp_inputs, mg_inputOf, mr_inputOf, mw_inputOf, mg_nameSign, mr_nameSign, mw_nameSign, mg_nameSize, mr_nameSize, mw_nameSize, mg_label, mr_label, mw_label, mg_isContrary, mp_isContrary, mg_text, mr_text, mw_text, mg_textSize, mp_textSize, mg_at, mp_at, mg_token, mp_token, mg_tokenAt, mp_tokenAt, mg_tokenSize, mp_tokenSize, mg_scanned, mp_scanned, mg_fault, mp_fault, mg_faultAt, mp_faultAt, mg_place, mp_place, mg_open, mp_open, mg_level, mr_level, mw_level, mg_stage, mr_stage, mw_stage, mg_held, mr_held, mw_held, mg_signPlace, mr_signPlace, mw_signPlace, mg_value, mp_value, mg_row, mr_row, mw_row, mg_contrary, mr_contrary, mw_contrary, mg_firstRow, mr_firstRow, mw_firstRow, mg_firstContrary, mr_firstContrary, mw_firstContrary, mg_depthOf, mr_depthOf, mw_depthOf, mg_phase, mr_phase, mw_phase, mg_tried, mr_tried, mw_tried, mg_before, mr_before, mw_before, mg_old, mr_old, mw_old, mg_steps, mp_steps, mg_mostSteps, mp_mostSteps, mg_rounds, mp_rounds, mg_passes, mp_passes, mg_branches, mp_branches, mg_worth, mr_worth, mw_worth, hg]
        have hR2 : md_R (md_gate σ (cN w.1) (cK w.1) (cA w.1) (cB w.1) kn p q).2 ((sp_gt w.1 kn p q).2, sp_grow w.2.1 (cN w.1), w.2.2) := ⟨r2, r3, md_xR_ot r4 hR.2.2.1, (r4.1 19 (by decide) (by decide)).trans hR.2.2.2.1, md_tt_ot r4 hR.2.2.2.2⟩
        have hQ3 := hQ2 _ hR2
        have hlt : ∀ l, (sp_gt w.1 kn p q).1 = some l → l < 2 ^ 31 := fun l hl => by
          unfold sp_gt at hl
          split at hl
          · rename_i v hv
            have := sp_fd_lt _ _ _ hv
            cases hl
            omega
          · split at hl
            · cases hl
            · cases hl
              omega
        cases hs : (sp_gt w.1 kn p q).1 with
        | none =>
          rw [hs] at hQ3
          have hm : ¬ (0 : Int32) ≤ -1 := by decide
          simp (disch := first | exact ev_ok_i _ | exact ev_ok_r _ | exact ev_ok_n | omega | assumption) only [e_Md_gate_45, e_Md_gate_47, e_Md_gate_52, ev_rm_n, ev_rm_i, ev_rm_r, ev_rm_l, ev_ok_n, ev_ok_i, ev_ok_r, Option.toList_some, Option.toList_none, List.cons_append, List.nil_append, true_and, and_true, true_or, or_true, reduceIte, Nat.reduceEqDiff, if_true, if_false, hm]
          exact hQ3
        | some l =>
          rw [hs] at hQ3
          have hl0 : (0 : Int32) ≤ nI l := nI_pos' (hlt l hs)
          simp (disch := first | exact ev_ok_i _ | exact ev_ok_r _ | exact ev_ok_n | omega | assumption) only [e_Md_gate_50, e_Md_gate_52, ev_rm_n, ev_rm_i, ev_rm_r, ev_rm_l, ev_ok_n, ev_ok_i, ev_ok_r, Option.toList_some, Option.toList_none, List.cons_append, List.nil_append, true_and, and_true, true_or, or_true, reduceIte, Nat.reduceEqDiff, if_true, if_false, hl0]
          exact hQ3
      simp (disch := first | exact ev_ok_i _ | exact ev_ok_r _ | exact ev_ok_n | omega | assumption) only [e_Md_gate_18, e_Md_gate_19, e_Md_gate_20, e_Md_gate_23, e_Md_gate_24, e_Md_gate_25, ev_rm_n, ev_rm_i, ev_rm_r, ev_rm_l, ev_ok_n, ev_ok_i, ev_ok_r, Option.toList_some, Option.toList_none, List.cons_append, List.nil_append, true_and, and_true, true_or, or_true, reduceIte, Nat.reduceEqDiff, if_true, if_false, i_10, not_false_eq_true]
      by_cases k2 : k = 2
      · subst k2
        rw [if_pos (Or.inl rfl)] at hQ
        simp only [if_true]
        exact key 2 (by decide) hQ
      · by_cases k3 : k = 3
        · subst k3
          rw [if_pos (Or.inr rfl)] at hQ
          simp only [k2, if_true, if_false]
          exact key 3 (by decide) hQ
        · rw [if_neg (fun z => z.elim k2 k3)] at hQ
          simp (disch := first | exact ev_ok_i _ | exact ev_ok_r _ | exact ev_ok_n | omega | assumption) only [k2, k3, e_Md_gate_28, e_Md_gate_30, ev_rm_n, ev_rm_i, ev_rm_r, ev_rm_l, ev_ok_n, ev_ok_i, ev_ok_r, Option.toList_some, Option.toList_none, List.cons_append, List.nil_append, true_and, and_true, true_or, or_true, reduceIte, Nat.reduceEqDiff, if_true, if_false]
          exact hQ σ hR
end M17
