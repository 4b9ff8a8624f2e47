/-! what two branches agree on: the reference -/
def sp_al (F G : Nat → Nat) (c : Bool) (l : Nat) : Nat := (sp_fd (fun m => F m == F l && (c || G m == G l)) 0 (l + 1)).getD l
def sp_ag (E E1 E2 : sp_E) : sp_E := if E1.2 = true ∧ E2.2 = true then (E.1, true) else if E1.2 = true then E2 else (fun l => sp_al E1.1 E2.1 E2.2 l, E.2)
def md_so (σ : md_S) (o : Nat → Int32) : md_S := (σ.1, va_up σ.2 34 o)
theorem md_so_fi (σ : md_S) (h : Nat → Int32) (lo hi : Nat) : md_fi σ 34 h lo hi = md_so σ (fun j => if lo ≤ j ∧ j < hi then h j else σ.2 34 j) := rfl
theorem md_so_2 (σ : md_S) (o : Nat → Int32) (k : Nat) : (md_so σ o).2 k = if k = 34 then o else σ.2 k := rfl
theorem md_so_eq (σ : md_S) : md_so σ (σ.2 34) = σ := by
  refine Prod.ext rfl (funext fun q => ?_)
  rw [md_so_2]
  split
  · rename_i e; rw [e]
  · rfl
theorem sp_fd_lt {p : Nat → Bool} : ∀ (m v r : Nat), sp_fd p v m = some r → v ≤ r ∧ r < v + m := by
  intro m
  induction m with
  | zero => intro v r h; simp [sp_fd] at h
  | succ m ih =>
    intro v r h
    unfold sp_fd at h
    split at h
    · cases h; omega
    · have := ih _ _ h; omega
theorem sp_al_le (F G : Nat → Nat) (c : Bool) (l : Nat) : sp_al F G c l ≤ l := by
  unfold sp_al
  cases h : sp_fd (fun m => F m == F l && (c || G m == G l)) 0 (l + 1) with
  | none => simp
  | some r => have := sp_fd_lt _ _ _ h; simp; omega
theorem sp_ag_bd {n : Nat} {E E1 E2 : sp_E} (h : sp_bd n E) (h2 : sp_bd n E2) : sp_bd n (sp_ag E E1 E2) := by
  unfold sp_ag
  split
  · exact h
  · split
    · exact h2
    · intro l hl
      have := sp_al_le E1.1 E2.1 E2.2 l
      show sp_al E1.1 E2.1 E2.2 l < 2 * n
      omega
section M8
variable {X : xo_X} {d B : Nat} {σ : md_S} {g : xo_G} {Q : Option Value → xo_G → Prop}
theorem c_agree_in {n f : Nat} (hn : n ≤ 120) (hf : f < 5) {E1 E2 : sp_E} (h1 : sp_bd n E1) (h2 : sp_bd n E2) (r1 : ∀ l, l < 2 * n → σ.2 28 (240 * f + l) = nI (E1.1 l)) (r2 : md_rw σ n (f + 1) E2) {l : Nat} (hl : l < 2 * n) {l3 : Option Value} : ∀ (r m : Nat), m + r = l + 1 → m ≤ l → (ev_R X d m_Md_agree 89 [some (.ref B), some (.int (nI f)), some (.int (nI (f + 1))), l3, some (.int (nI (E1.1 l))), some (.int (nI (E2.1 l))), some (.int (nI m))] [] (md_put B σ g) Q ↔ ev_R X d m_Md_agree 140 [some (.ref B), some (.int (nI f)), some (.int (nI (f + 1))), l3, some (.int (nI (E1.1 l))), some (.int (nI (E2.1 l))), some (.int (nI ((sp_fd (fun m => E1.1 m == E1.1 l && (E2.2 || E2.1 m == E2.1 l)) m r).getD l)))] [] (md_put B σ g) Q) := by
  intro r
  induction r with
  | zero => intro m hm hml; omega
  | succ r ih =>
    intro m hm hml
    have a1 := r1 m (by omega)
    have a2 := r2.1 m (by omega)
    have a3 := r2.2
    have b1 := h1 m (by omega)
    have b2 := h1 l hl
    have b3 := h2 m (by omega)
    have b4 := h2 l hl
    have key : ev_R X d m_Md_agree 89 [some (.ref B), some (.int (nI f)), some (.int (nI (f + 1))), l3, some (.int (nI (E1.1 l))), some (.int (nI (E2.1 l))), some (.int (nI m))] [] (md_put B σ g) Q ↔ if E1.1 m = E1.1 l ∧ (E2.2 = true ∨ E2.1 m = E2.1 l) then ev_R X d m_Md_agree 140 [some (.ref B), some (.int (nI f)), some (.int (nI (f + 1))), l3, some (.int (nI (E1.1 l))), some (.int (nI (E2.1 l))), some (.int (nI m))] [] (md_put B σ g) Q else ev_R X d m_Md_agree 89 [some (.ref B), some (.int (nI f)), some (.int (nI (f + 1))), l3, some (.int (nI (E1.1 l))), some (.int (nI (E2.1 l))), some (.int (nI (m + 1)))] [] (md_put B σ g) Q := by
      have e137 := @e_Md_agree_137 X d [some (.ref B), some (.int (nI f)), some (.int (nI (f + 1))), l3, some (.int (nI (E1.1 l))), some (.int (nI (E2.1 l))), some (.int (nI (m + 1)))] [] (md_put B σ g) Q
      rw [← e137]
      simp (disch := first | exact ev_ok_i _ | exact ev_ok_r _ | exact ev_ok_n | omega | assumption) only [e_Md_agree_89, e_Md_agree_90, e_Md_agree_93, e_Md_agree_96, e_Md_agree_97, e_Md_agree_98, e_Md_agree_100, e_Md_agree_101, e_Md_agree_102, e_Md_agree_104, e_Md_agree_107, e_Md_agree_108, e_Md_agree_111, e_Md_agree_112, e_Md_agree_113, e_Md_agree_116, e_Md_agree_117, e_Md_agree_120, e_Md_agree_123, e_Md_agree_124, e_Md_agree_125, e_Md_agree_127, e_Md_agree_128, e_Md_agree_129, e_Md_agree_131, e_Md_agree_134, ev_rm_n, ev_rm_i, ev_rm_r, ev_rm_l, ev_ok_n, ev_ok_i, ev_ok_r, Option.toList_some, Option.toList_none, List.cons_append, List.nil_append, true_and, and_true, true_or, or_true, reduceIte, Nat.reduceEqDiff, if_true, if_false, md_rc, md_si_1, md_si_2, md_sa_1, md_sa_2, mg_kind, mr_kind, mw_kind, mg_one, mr_one, mw_one, mg_two, mr_two, mw_two, mg_variables, mp_variables, mg_inputs, mp_inputs, mg_inputOf, mr_inputOf, mw_inputOf, mg_nameSign, mr_nameSign, mw_nameSign, mg_nameSize, mr_nameSize, mw_nameSize, mg_label, mr_label, mw_label, mg_isContrary, mp_isContrary, mg_text, mr_text, mw_text, mg_textSize, mp_textSize, mg_at, mp_at, mg_token, mp_token, mg_tokenAt, mp_tokenAt, mg_tokenSize, mp_tokenSize, mg_scanned, mp_scanned, mg_fault, mp_fault, mg_faultAt, mp_faultAt, mg_place, mp_place, mg_open, mp_open, mg_level, mr_level, mw_level, mg_stage, mr_stage, mw_stage, mg_held, mr_held, mw_held, mg_signPlace, mr_signPlace, mw_signPlace, mg_value, mp_value, mg_row, mr_row, mw_row, mg_contrary, mr_contrary, mw_contrary, mg_firstRow, mr_firstRow, mw_firstRow, mg_firstContrary, mr_firstContrary, mw_firstContrary, mg_depthOf, mr_depthOf, mw_depthOf, mg_phase, mr_phase, mw_phase, mg_tried, mr_tried, mw_tried, mg_before, mr_before, mw_before, mg_old, mr_old, mw_old, mg_steps, mp_steps, mg_mostSteps, mp_mostSteps, mg_rounds, mp_rounds, mg_passes, mp_passes, mg_branches, mp_branches, mg_worth, mr_worth, mw_worth, nL_240, nI_add, xo_in, nI_clamp, a1, a2, a3, nI_eq, nI_1, sp_zb_0]
      by_cases c1 : E1.1 m = E1.1 l
      · cases c2 : E2.2
        · by_cases c3 : E2.1 m = E2.1 l
          · simp [c1, c3]
          · simp [c1, c3]
        · simp [c1]
      · simp [c1]
    rw [key]
    unfold sp_fd
    by_cases c : E1.1 m = E1.1 l ∧ (E2.2 = true ∨ E2.1 m = E2.1 l)
    · rw [if_pos c, if_pos (by simpa using c)]
      rfl
    · have hne : ¬ m = l := fun e => c (by rw [e]; exact ⟨rfl, Or.inr rfl⟩)
      rw [if_neg c, if_neg (by simpa using c)]
      exact ih (m + 1) (by omega) (by omega)
theorem c_agree_1 {n f : Nat} (h3 : σ.1 3 = nI n) (hn : n ≤ 120) (hf : f < 5) {E1 E2 : sp_E} (h1 : sp_bd n E1) (h2 : sp_bd n E2) (r1 : ∀ l, l < 2 * n → σ.2 28 (240 * f + l) = nI (E1.1 l)) (r2 : md_rw σ n (f + 1) E2) : ∀ (m v : Nat) (l4 l5 l6 : Option Value), ev_ok l4 = true → ev_ok l5 = true → v + m = 2 * n → (∀ l4 l5 l6, ev_ok l4 = true → ev_ok l5 = true → ev_R X d m_Md_agree 156 [some (.ref B), some (.int (nI f)), some (.int (nI (f + 1))), some (.int 0), l4, l5, l6] [] (md_put B (md_fi σ 34 (fun l => nI (sp_al E1.1 E2.1 E2.2 l)) 0 (2 * n)) g) Q) → ev_R X d m_Md_agree 48 [some (.ref B), some (.int (nI f)), some (.int (nI (f + 1))), some (.int (nI v)), l4, l5, l6] [] (md_put B (md_fi σ 34 (fun l => nI (sp_al E1.1 E2.1 E2.2 l)) 0 v) g) Q := by
  intro m
  induction m with
  | zero =>
    intro v l4 l5 l6 o4 o5 hv hk
    have e : v = 2 * n := by omega
    subst e
    simp (disch := first | exact ev_ok_i _ | exact ev_ok_r _ | exact ev_ok_n | omega | assumption) only [e_Md_agree_48, e_Md_agree_49, e_Md_agree_50, e_Md_agree_51, e_Md_agree_54, e_Md_agree_55, e_Md_agree_154, e_Md_agree_155, ev_rm_n, ev_rm_i, ev_rm_r, ev_rm_l, ev_ok_n, ev_ok_i, ev_ok_r, Option.toList_some, Option.toList_none, List.cons_append, List.nil_append, true_and, and_true, true_or, or_true, reduceIte, Nat.reduceEqDiff, if_true, if_false, md_rc, md_si_1, md_si_2, md_sa_1, md_sa_2, mg_kind, mr_kind, mw_kind, mg_one, mr_one, mw_one, mg_two, mr_two, mw_two, mg_variables, mp_variables, mg_inputs, mp_inputs, mg_inputOf, mr_inputOf, mw_inputOf, mg_nameSign, mr_nameSign, mw_nameSign, mg_nameSize, mr_nameSize, mw_nameSize, mg_label, mr_label, mw_label, mg_isContrary, mp_isContrary, mg_text, mr_text, mw_text, mg_textSize, mp_textSize, mg_at, mp_at, mg_token, mp_token, mg_tokenAt, mp_tokenAt, mg_tokenSize, mp_tokenSize, mg_scanned, mp_scanned, mg_fault, mp_fault, mg_faultAt, mp_faultAt, mg_place, mp_place, mg_open, mp_open, mg_level, mr_level, mw_level, mg_stage, mr_stage, mw_stage, mg_held, mr_held, mw_held, mg_signPlace, mr_signPlace, mw_signPlace, mg_value, mp_value, mg_row, mr_row, mw_row, mg_contrary, mr_contrary, mw_contrary, mg_firstRow, mr_firstRow, mw_firstRow, mg_firstContrary, mr_firstContrary, mw_firstContrary, mg_depthOf, mr_depthOf, mw_depthOf, mg_phase, mr_phase, mw_phase, mg_tried, mr_tried, mw_tried, mg_before, mr_before, mw_before, mg_old, mr_old, mw_old, mg_steps, mp_steps, mg_mostSteps, mp_mostSteps, mg_rounds, mp_rounds, mg_passes, mp_passes, mg_branches, mp_branches, mg_worth, mr_worth, mw_worth, md_fi_1, h3, nL_2, nI_leI, Nat.le_refl]
    exact hk l4 l5 l6 o4 o5
  | succ m ih =>
    intro v l4 l5 l6 o4 o5 hv hk
    have hlt : ¬ 2 * n ≤ v := by omega
    have a1 := r1 v (by omega)
    have a2 := r2.1 v (by omega)
    have e0 : (0 : Int32) = nI 0 := rfl
    have hle := sp_al_le E1.1 E2.1 E2.2 v
    have hin := c_agree_in (X := X) (d := d) (B := B) (g := g) (Q := Q) (σ := md_fi σ 34 (fun l => nI (sp_al E1.1 E2.1 E2.2 l)) 0 v) (f := f) (l := v) (l3 := some (.int (nI v))) hn hf h1 h2 (fun l hl => r1 l hl) ⟨fun l hl => r2.1 l hl, r2.2⟩ (by omega) (v + 1) 0 (by omega) (Nat.zero_le v)
    simp (disch := first | exact ev_ok_i _ | exact ev_ok_r _ | exact ev_ok_n | omega | assumption) only [e_Md_agree_48, e_Md_agree_49, e_Md_agree_50, e_Md_agree_51, e_Md_agree_54, e_Md_agree_55, e_Md_agree_58, e_Md_agree_59, e_Md_agree_62, e_Md_agree_65, e_Md_agree_66, e_Md_agree_67, e_Md_agree_68, e_Md_agree_69, e_Md_agree_70, e_Md_agree_72, e_Md_agree_73, e_Md_agree_76, e_Md_agree_79, e_Md_agree_80, e_Md_agree_81, e_Md_agree_82, e_Md_agree_83, e_Md_agree_84, e_Md_agree_86, e_Md_agree_87, ev_rm_n, ev_rm_i, ev_rm_r, ev_rm_l, ev_ok_n, ev_ok_i, ev_ok_r, Option.toList_some, Option.toList_none, List.cons_append, List.nil_append, true_and, and_true, true_or, or_true, reduceIte, Nat.reduceEqDiff, if_true, if_false, md_rc, md_si_1, md_si_2, md_sa_1, md_sa_2, mg_kind, mr_kind, mw_kind, mg_one, mr_one, mw_one, mg_two, mr_two, mw_two, mg_variables, mp_variables, mg_inputs, mp_inputs, mg_inputOf, mr_inputOf, mw_inputOf, mg_nameSign, mr_nameSign, mw_nameSign, mg_nameSize, mr_nameSize, mw_nameSize, mg_label, mr_label, mw_label, mg_isContrary, mp_isContrary, mg_text, mr_text, mw_text, mg_textSize, mp_textSize, mg_at, mp_at, mg_token, mp_token, mg_tokenAt, mp_tokenAt, mg_tokenSize, mp_tokenSize, mg_scanned, mp_scanned, mg_fault, mp_fault, mg_faultAt, mp_faultAt, mg_place, mp_place, mg_open, mp_open, mg_level, mr_level, mw_level, mg_stage, mr_stage, mw_stage, mg_held, mr_held, mw_held, mg_signPlace, mr_signPlace, mw_signPlace, mg_value, mp_value, mg_row, mr_row, mw_row, mg_contrary, mr_contrary, mw_contrary, mg_firstRow, mr_firstRow, mw_firstRow, mg_firstContrary, mr_firstContrary, mw_firstContrary, mg_depthOf, mr_depthOf, mw_depthOf, mg_phase, mr_phase, mw_phase, mg_tried, mr_tried, mw_tried, mg_before, mr_before, mw_before, mg_old, mr_old, mw_old, mg_steps, mp_steps, mg_mostSteps, mp_mostSteps, mg_rounds, mp_rounds, mg_passes, mp_passes, mg_branches, mp_branches, mg_worth, mr_worth, mw_worth, md_fi_1, md_fi_2, h3, nL_2, nL_240, nI_add, nI_leI, hlt, xo_in, nI_clamp, a1, a2]
    rw [e0, hin]
    simp (disch := first | exact ev_ok_i _ | exact ev_ok_r _ | exact ev_ok_n | omega | assumption) only [e_Md_agree_140, e_Md_agree_141, e_Md_agree_144, e_Md_agree_145, e_Md_agree_147, e_Md_agree_148, ev_rm_n, ev_rm_i, ev_rm_r, ev_rm_l, ev_ok_n, ev_ok_i, ev_ok_r, Option.toList_some, Option.toList_none, List.cons_append, List.nil_append, true_and, and_true, true_or, or_true, reduceIte, Nat.reduceEqDiff, if_true, if_false, md_rc, md_si_1, md_si_2, md_sa_1, md_sa_2, mg_kind, mr_kind, mw_kind, mg_one, mr_one, mw_one, mg_two, mr_two, mw_two, mg_variables, mp_variables, mg_inputs, mp_inputs, mg_inputOf, mr_inputOf, mw_inputOf, mg_nameSign, mr_nameSign, mw_nameSign, mg_nameSize, mr_nameSize, mw_nameSize, mg_label, mr_label, mw_label, mg_isContrary, mp_isContrary, mg_text, mr_text, mw_text, mg_textSize, mp_textSize, mg_at, mp_at, mg_token, mp_token, mg_tokenAt, mp_tokenAt, mg_tokenSize, mp_tokenSize, mg_scanned, mp_scanned, mg_fault, mp_fault, mg_faultAt, mp_faultAt, mg_place, mp_place, mg_open, mp_open, mg_level, mr_level, mw_level, mg_stage, mr_stage, mw_stage, mg_held, mr_held, mw_held, mg_signPlace, mr_signPlace, mw_signPlace, mg_value, mp_value, mg_row, mr_row, mw_row, mg_contrary, mr_contrary, mw_contrary, mg_firstRow, mr_firstRow, mw_firstRow, mg_firstContrary, mr_firstContrary, mw_firstContrary, mg_depthOf, mr_depthOf, mw_depthOf, mg_phase, mr_phase, mw_phase, mg_tried, mr_tried, mw_tried, mg_before, mr_before, mw_before, mg_old, mr_old, mw_old, mg_steps, mp_steps, mg_mostSteps, mp_mostSteps, mg_rounds, mp_rounds, mg_passes, mp_passes, mg_branches, mp_branches, mg_worth, mr_worth, mw_worth, xo_in, nI_clamp, nI_1]
    have hs : md_sa (md_fi σ 34 (fun l => nI (sp_al E1.1 E2.1 E2.2 l)) 0 v) 34 v (nI ((sp_fd (fun m => E1.1 m == E1.1 v && (E2.2 || E2.1 m == E2.1 v)) 0 (v + 1)).getD v)) = md_fi σ 34 (fun l => nI (sp_al E1.1 E2.1 E2.2 l)) 0 (v + 1) := md_fi_s σ 34 (fun l => nI (sp_al E1.1 E2.1 E2.2 l)) (Nat.zero_le v) rfl
    rw [e_Md_agree_151, hs]
    exact ih (v + 1) _ _ _ rfl rfl (by omega) hk
theorem c_agree_2 {n f : Nat} (h3 : σ.1 3 = nI n) (hn : n ≤ 120) (hf : f < 5) {E : sp_E} (ho : ∀ l, l < 2 * n → σ.2 34 l = nI (E.1 l)) (hc : σ.2 27 f = sp_zb E.2) {l2 l4 l5 l6 : Option Value} (o2 : ev_ok l2 = true) : ∀ (m v : Nat), v + m = 2 * n → (ev_R X d m_Md_agree 156 [some (.ref B), some (.int (nI f)), l2, some (.int (nI v)), l4, l5, l6] [] (md_put B (md_fi σ 26 (fun j => nI (E.1 (j - 240 * f))) (240 * f) (240 * f + v)) g) Q ↔ Q none (md_put B (md_wr σ n f E) g)) := by
  intro m
  induction m with
  | zero =>
    intro v hv
    have e : v = 2 * n := by omega
    subst e
    have hw : md_fi σ 26 (fun j => nI (E.1 (j - 240 * f))) (240 * f) (240 * f + 2 * n) = md_wr σ n f E := by
      unfold md_wr
      refine md_S_ext rfl (fun q j => ?_)
      simp only [md_sa_2, md_fi_2]
      by_cases h27 : q = 27
      · subst h27
        simp only [Nat.reduceEqDiff, if_false, if_true, upd]
        split
        · rename_i ej; rw [ej, hc]
        · rfl
      · simp only [h27, if_false]
    simp (disch := first | exact ev_ok_i _ | exact ev_ok_r _ | exact ev_ok_n | omega | assumption) only [e_Md_agree_156, e_Md_agree_157, e_Md_agree_158, e_Md_agree_159, e_Md_agree_162, e_Md_agree_163, e_Md_agree_190, ev_rm_n, ev_rm_i, ev_rm_r, ev_rm_l, ev_ok_n, ev_ok_i, ev_ok_r, Option.toList_some, Option.toList_none, List.cons_append, List.nil_append, true_and, and_true, true_or, or_true, reduceIte, Nat.reduceEqDiff, if_true, if_false, md_rc, md_si_1, md_si_2, md_sa_1, md_sa_2, mg_kind, mr_kind, mw_kind, mg_one, mr_one, mw_one, mg_two, mr_two, mw_two, mg_variables, mp_variables, mg_inputs, mp_inputs, mg_inputOf, mr_inputOf, mw_inputOf, mg_nameSign, mr_nameSign, mw_nameSign, mg_nameSize, mr_nameSize, mw_nameSize, mg_label, mr_label, mw_label, mg_isContrary, mp_isContrary, mg_text, mr_text, mw_text, mg_textSize, mp_textSize, mg_at, mp_at, mg_token, mp_token, mg_tokenAt, mp_tokenAt, mg_tokenSize, mp_tokenSize, mg_scanned, mp_scanned, mg_fault, mp_fault, mg_faultAt, mp_faultAt, mg_place, mp_place, mg_open, mp_open, mg_level, mr_level, mw_level, mg_stage, mr_stage, mw_stage, mg_held, mr_held, mw_held, mg_signPlace, mr_signPlace, mw_signPlace, mg_value, mp_value, mg_row, mr_row, mw_row, mg_contrary, mr_contrary, mw_contrary, mg_firstRow, mr_firstRow, mw_firstRow, mg_firstContrary, mr_firstContrary, mw_firstContrary, mg_depthOf, mr_depthOf, mw_depthOf, mg_phase, mr_phase, mw_phase, mg_tried, mr_tried, mw_tried, mg_before, mr_before, mw_before, mg_old, mr_old, mw_old, mg_steps, mp_steps, mg_mostSteps, mp_mostSteps, mg_rounds, mp_rounds, mg_passes, mp_passes, mg_branches, mp_branches, mg_worth, mr_worth, mw_worth, md_fi_1, h3, nL_2, nI_leI, Nat.le_refl]
    rw [hw]
  | succ m ih =>
    intro v hv
    have hih := ih (v + 1) (by omega)
    have hlt : ¬ 2 * n ≤ v := by omega
    have a1 := ho v (by omega)
    simp (disch := first | exact ev_ok_i _ | exact ev_ok_r _ | exact ev_ok_n | omega | assumption) only [e_Md_agree_156, e_Md_agree_157, e_Md_agree_158, e_Md_agree_159, e_Md_agree_162, e_Md_agree_163, e_Md_agree_166, e_Md_agree_167, e_Md_agree_170, e_Md_agree_173, e_Md_agree_174, e_Md_agree_175, e_Md_agree_176, e_Md_agree_177, e_Md_agree_178, e_Md_agree_181, e_Md_agree_182, e_Md_agree_183, e_Md_agree_184, ev_rm_n, ev_rm_i, ev_rm_r, ev_rm_l, ev_ok_n, ev_ok_i, ev_ok_r, Option.toList_some, Option.toList_none, List.cons_append, List.nil_append, true_and, and_true, true_or, or_true, reduceIte, Nat.reduceEqDiff, if_true, if_false, md_rc, md_si_1, md_si_2, md_sa_1, md_sa_2, mg_kind, mr_kind, mw_kind, mg_one, mr_one, mw_one, mg_two, mr_two, mw_two, mg_variables, mp_variables, mg_inputs, mp_inputs, mg_inputOf, mr_inputOf, mw_inputOf, mg_nameSign, mr_nameSign, mw_nameSign, mg_nameSize, mr_nameSize, mw_nameSize, mg_label, mr_label, mw_label, mg_isContrary, mp_isContrary, mg_text, mr_text, mw_text, mg_textSize, mp_textSize, mg_at, mp_at, mg_token, mp_token, mg_tokenAt, mp_tokenAt, mg_tokenSize, mp_tokenSize, mg_scanned, mp_scanned, mg_fault, mp_fault, mg_faultAt, mp_faultAt, mg_place, mp_place, mg_open, mp_open, mg_level, mr_level, mw_level, mg_stage, mr_stage, mw_stage, mg_held, mr_held, mw_held, mg_signPlace, mr_signPlace, mw_signPlace, mg_value, mp_value, mg_row, mr_row, mw_row, mg_contrary, mr_contrary, mw_contrary, mg_firstRow, mr_firstRow, mw_firstRow, mg_firstContrary, mr_firstContrary, mw_firstContrary, mg_depthOf, mr_depthOf, mw_depthOf, mg_phase, mr_phase, mw_phase, mg_tried, mr_tried, mw_tried, mg_before, mr_before, mw_before, mg_old, mr_old, mw_old, mg_steps, mp_steps, mg_mostSteps, mp_mostSteps, mg_rounds, mp_rounds, mg_passes, mp_passes, mg_branches, mp_branches, mg_worth, mr_worth, mw_worth, md_fi_1, md_fi_2, h3, nL_2, nL_240, nI_add, nI_leI, hlt, xo_in, nI_clamp, a1, nI_1]
    rw [e_Md_agree_187, md_fi_s σ 26 (fun j => nI (E.1 (j - 240 * f))) (Nat.le_add_right _ _) (by rw [Nat.add_sub_cancel_left])]
    exact hih
theorem c_agree {n f : Nat} (h3 : σ.1 3 = nI n) (hn : n ≤ 120) (hf : f < 5) {E E1 E2 : sp_E} (h1 : sp_bd n E1) (h2 : sp_bd n E2) (r0 : md_rw σ n f E) (hE : E.2 = false) (r1 : ∀ l, l < 2 * n → σ.2 28 (240 * f + l) = nI (E1.1 l)) (r1c : σ.2 29 f = sp_zb E1.2) (r2 : md_rw σ n (f + 1) E2) (hQ : ∀ o, Q none (md_put B (md_wr (md_so σ o) n f (sp_ag E E1 E2)) g)) : ev_C X (d + 1) m_Md_agree [.ref B, .int (nI f)] (md_put B σ g) Q := by
  show ev_R X (d + 1) m_Md_agree 0 [some (.ref B), some (.int (nI f)), none, none, none, none, none] [] (md_put B σ g) Q
  have a2 := r2.2
  unfold sp_ag at hQ
  cases c1 : E1.2 with
  | true =>
    cases c2 : E2.2 with
    | true =>
      rw [if_pos ⟨c1, c2⟩] at hQ
      have h := hQ (σ.2 34)
      rw [md_so_eq] at h
      have hw : md_wr σ n f (E.1, true) = md_sa σ 27 f 1 := by
        rw [← md_wr_eq r0]
        rw [md_wr_wr]
        unfold md_wr
        refine md_S_ext rfl (fun q j => ?_)
        simp only [md_sa_2, md_fi_2]
        by_cases h27 : q = 27
        · subst h27
          simp only [Nat.reduceEqDiff, if_false, if_true, upd, sp_zb]
          split
          · rfl
          · rfl
        · simp only [h27, if_false]
      rw [hw] at h
      simp (disch := first | exact ev_ok_i _ | exact ev_ok_r _ | exact ev_ok_n | omega | assumption) only [e_Md_agree_0, e_Md_agree_1, e_Md_agree_2, e_Md_agree_3, e_Md_agree_4, e_Md_agree_5, e_Md_agree_8, e_Md_agree_9, e_Md_agree_10, e_Md_agree_13, e_Md_agree_14, e_Md_agree_17, e_Md_agree_18, e_Md_agree_19, e_Md_agree_22, e_Md_agree_23, e_Md_agree_26, e_Md_agree_27, e_Md_agree_28, e_Md_agree_29, ev_rm_n, ev_rm_i, ev_rm_r, ev_rm_l, ev_ok_n, ev_ok_i, ev_ok_r, Option.toList_some, Option.toList_none, List.cons_append, List.nil_append, true_and, and_true, true_or, or_true, reduceIte, Nat.reduceEqDiff, if_true, if_false, md_rc, md_si_1, md_si_2, md_sa_1, md_sa_2, mg_kind, mr_kind, mw_kind, mg_one, mr_one, mw_one, mg_two, mr_two, mw_two, mg_variables, mp_variables, mg_inputs, mp_inputs, mg_inputOf, mr_inputOf, mw_inputOf, mg_nameSign, mr_nameSign, mw_nameSign, mg_nameSize, mr_nameSize, mw_nameSize, mg_label, mr_label, mw_label, mg_isContrary, mp_isContrary, mg_text, mr_text, mw_text, mg_textSize, mp_textSize, mg_at, mp_at, mg_token, mp_token, mg_tokenAt, mp_tokenAt, mg_tokenSize, mp_tokenSize, mg_scanned, mp_scanned, mg_fault, mp_fault, mg_faultAt, mp_faultAt, mg_place, mp_place, mg_open, mp_open, mg_level, mr_level, mw_level, mg_stage, mr_stage, mw_stage, mg_held, mr_held, mw_held, mg_signPlace, mr_signPlace, mw_signPlace, mg_value, mp_value, mg_row, mr_row, mw_row, mg_contrary, mr_contrary, mw_contrary, mg_firstRow, mr_firstRow, mw_firstRow, mg_firstContrary, mr_firstContrary, mw_firstContrary, mg_depthOf, mr_depthOf, mw_depthOf, mg_phase, mr_phase, mw_phase, mg_tried, mr_tried, mw_tried, mg_before, mr_before, mw_before, mg_old, mr_old, mw_old, mg_steps, mp_steps, mg_mostSteps, mp_mostSteps, mg_rounds, mp_rounds, mg_passes, mp_passes, mg_branches, mp_branches, mg_worth, mr_worth, mw_worth, nI_1, xo_in, nI_clamp, r1c, a2, c1, c2, sp_zb_0, nZ_1]
      simpa using h
    | false =>
      rw [if_neg (by rw [c2]; simp), if_pos c1] at hQ
      have h := hQ (σ.2 34)
      rw [md_so_eq] at h
      have hcp := fun Q => c_copyRow (X := X) (d := d) (B := B) (g := g) (Q := Q) (σ := σ) (f := f + 1) (t := f) h3 hn (by omega) (by omega) (by omega)
      rw [md_cr_wr r2] at hcp
      simp (disch := first | exact ev_ok_i _ | exact ev_ok_r _ | exact ev_ok_n | omega | assumption) only [e_Md_agree_0, e_Md_agree_1, e_Md_agree_2, e_Md_agree_3, e_Md_agree_4, e_Md_agree_5, e_Md_agree_8, e_Md_agree_9, e_Md_agree_10, e_Md_agree_13, e_Md_agree_14, e_Md_agree_17, e_Md_agree_18, e_Md_agree_19, e_Md_agree_30, e_Md_agree_31, e_Md_agree_34, e_Md_agree_35, e_Md_agree_36, e_Md_agree_39, e_Md_agree_40, e_Md_agree_41, e_Md_agree_42, e_Md_agree_45, ev_rm_n, ev_rm_i, ev_rm_r, ev_rm_l, ev_ok_n, ev_ok_i, ev_ok_r, Option.toList_some, Option.toList_none, List.cons_append, List.nil_append, true_and, and_true, true_or, or_true, reduceIte, Nat.reduceEqDiff, if_true, if_false, md_rc, md_si_1, md_si_2, md_sa_1, md_sa_2, mg_kind, mr_kind, mw_kind, mg_one, mr_one, mw_one, mg_two, mr_two, mw_two, mg_variables, mp_variables, mg_inputs, mp_inputs, mg_inputOf, mr_inputOf, mw_inputOf, mg_nameSign, mr_nameSign, mw_nameSign, mg_nameSize, mr_nameSize, mw_nameSize, mg_label, mr_label, mw_label, mg_isContrary, mp_isContrary, mg_text, mr_text, mw_text, mg_textSize, mp_textSize, mg_at, mp_at, mg_token, mp_token, mg_tokenAt, mp_tokenAt, mg_tokenSize, mp_tokenSize, mg_scanned, mp_scanned, mg_fault, mp_fault, mg_faultAt, mp_faultAt, mg_place, mp_place, mg_open, mp_open, mg_level, mr_level, mw_level, mg_stage, mr_stage, mw_stage, mg_held, mr_held, mw_held, mg_signPlace, mr_signPlace, mw_signPlace, mg_value, mp_value, mg_row, mr_row, mw_row, mg_contrary, mr_contrary, mw_contrary, mg_firstRow, mr_firstRow, mw_firstRow, mg_firstContrary, mr_firstContrary, mw_firstContrary, mg_depthOf, mr_depthOf, mw_depthOf, mg_phase, mr_phase, mw_phase, mg_tried, mr_tried, mw_tried, mg_before, mr_before, mw_before, mg_old, mr_old, mw_old, mg_steps, mp_steps, mg_mostSteps, mp_mostSteps, mg_rounds, mp_rounds, mg_passes, mp_passes, mg_branches, mp_branches, mg_worth, mr_worth, mw_worth, nI_1, xo_in, nI_clamp, r1c, a2, c1, c2, sp_zb_0, hcp]
      simpa using h
  | false =>
    rw [if_neg (by rw [c1]; simp), if_neg (by rw [c1]; simp)] at hQ
    have e0 : (0 : Int32) = nI 0 := rfl
    simp (disch := first | exact ev_ok_i _ | exact ev_ok_r _ | exact ev_ok_n | omega | assumption) only [e_Md_agree_0, e_Md_agree_1, e_Md_agree_2, e_Md_agree_3, e_Md_agree_4, e_Md_agree_5, e_Md_agree_8, e_Md_agree_9, e_Md_agree_10, e_Md_agree_30, e_Md_agree_31, e_Md_agree_34, e_Md_agree_35, e_Md_agree_36, e_Md_agree_46, e_Md_agree_47, ev_rm_n, ev_rm_i, ev_rm_r, ev_rm_l, ev_ok_n, ev_ok_i, ev_ok_r, Option.toList_some, Option.toList_none, List.cons_append, List.nil_append, true_and, and_true, true_or, or_true, reduceIte, Nat.reduceEqDiff, if_true, if_false, md_rc, md_si_1, md_si_2, md_sa_1, md_sa_2, mg_kind, mr_kind, mw_kind, mg_one, mr_one, mw_one, mg_two, mr_two, mw_two, mg_variables, mp_variables, mg_inputs, mp_inputs, mg_inputOf, mr_inputOf, mw_inputOf, mg_nameSign, mr_nameSign, mw_nameSign, mg_nameSize, mr_nameSize, mw_nameSize, mg_label, mr_label, mw_label, mg_isContrary, mp_isContrary, mg_text, mr_text, mw_text, mg_textSize, mp_textSize, mg_at, mp_at, mg_token, mp_token, mg_tokenAt, mp_tokenAt, mg_tokenSize, mp_tokenSize, mg_scanned, mp_scanned, mg_fault, mp_fault, mg_faultAt, mp_faultAt, mg_place, mp_place, mg_open, mp_open, mg_level, mr_level, mw_level, mg_stage, mr_stage, mw_stage, mg_held, mr_held, mw_held, mg_signPlace, mr_signPlace, mw_signPlace, mg_value, mp_value, mg_row, mr_row, mw_row, mg_contrary, mr_contrary, mw_contrary, mg_firstRow, mr_firstRow, mw_firstRow, mg_firstContrary, mr_firstContrary, mw_firstContrary, mg_depthOf, mr_depthOf, mw_depthOf, mg_phase, mr_phase, mw_phase, mg_tried, mr_tried, mw_tried, mg_before, mr_before, mw_before, mg_old, mr_old, mw_old, mg_steps, mp_steps, mg_mostSteps, mp_mostSteps, mg_rounds, mp_rounds, mg_passes, mp_passes, mg_branches, mp_branches, mg_worth, mr_worth, mw_worth, nI_1, xo_in, nI_clamp, r1c, c1, sp_zb_0]
    have hl := c_agree_1 (X := X) (d := d + 1) (B := B) (g := g) (Q := Q) h3 hn hf h1 h2 r1 r2 (2 * n) 0 none none none rfl rfl (by omega) (fun l4 l5 l6 o4 o5 => by
      have h := c_agree_2 (X := X) (d := d + 1) (B := B) (g := g) (Q := Q) (σ := md_fi σ 34 (fun l => nI (sp_al E1.1 E2.1 E2.2 l)) 0 (2 * n)) (f := f) (E := (fun l => sp_al E1.1 E2.1 E2.2 l, E.2)) (l2 := some (.int (nI (f + 1)))) (l4 := l4) (l5 := l5) (l6 := l6) h3 hn hf (fun l hl => by rw [md_fi_2, if_pos rfl]; exact if_pos ⟨Nat.zero_le l, hl⟩) r0.2 rfl (2 * n) 0 (by omega)
      simp only [Nat.add_zero] at h
      rw [md_fi_0] at h
      rw [e0, h, md_so_fi]
      exact hQ _)
    rw [md_fi_0] at hl
    exact hl
end M8
