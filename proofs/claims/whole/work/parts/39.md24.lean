/-! READING: the reference's inputAt, whole; hold -/
theorem sp_tw_257 {x : sp_X} {s : Nat} (h : (sp_tw x s).1 = 257) : (sp_tw x s).2 ≤ 6 := by
  unfold sp_tw at h ⊢
  split at h
  · exact absurd h (by show ¬ (256 : Int32) = 257; decide)
  · rename_i c0
    rw [if_neg c0]
    split at h
    · rename_i c1
      rw [if_pos c1]
      have h2 : sp_wk x s (sp_we x (x.2 - s) s - s) = 257 := h
      show sp_we x (x.2 - s) s - s ≤ 6
      by_cases h6 : 6 < sp_we x (x.2 - s) s - s
      · unfold sp_wk at h2
        rw [if_pos h6] at h2
        exact absurd h2 (by decide)
      · omega
    · rename_i c1
      rw [if_neg c1]
      split
      · show 2 ≤ 6; decide
      · split
        · show 3 ≤ 6; decide
        · show 1 ≤ 6; decide
section M24
variable {X : xo_X} {d B : Nat} {σ : md_S} {g : xo_G} {Q : Option Value → xo_G → Prop} {x : sp_X} {E : sp_E} {n0 : Nat} {s : sp_P}
/-- the reference's new input -/
def md_ni (σ : md_S) (x : sp_X) (st sz i n : Nat) : md_S := md_si (md_sa (md_nv (md_sa (md_nn σ x st i sz) 7 i (nI sz)) n (nI 1) (nI i) (nI 0)) 5 i (nI n)) 4 (nI (i + 1))
theorem md_ni_R {c : sp_C} {st sz : Nat} (hok : sp_cok c) (hb : md_cR σ c ∧ md_eR σ (cN c) (sp_grow E n0) ∧ md_xR σ x) (hn0 : n0 ≤ cN c) (hn : cN c < 120) (hi : cI c < 24) (hz : sz ≤ 6) : (md_cR (md_ni σ x st sz (cI c) (cN c)) (sp_ai c x st sz) ∧ md_eR (md_ni σ x st sz (cI c) (cN c)) (cN c + 1) (sp_grow E n0) ∧ md_xR (md_ni σ x st sz (cI c) (cN c)) x) ∧ md_ph σ (md_ni σ x st sz (cI c) (cN c)) ∧ ∀ j, 12 ≤ j → (md_ni σ x st sz (cI c) (cN c)).1 j = σ.1 j := by
  obtain ⟨hc, he, hx⟩ := hb
  have hcx : md_cR (md_sa (md_nn σ x st (cI c) sz) 7 (cI c) (nI sz)) c := by
    refine ⟨⟨hc.1.1, hc.1.2.1, hc.1.2.2.1, fun v hv => hc.1.2.2.2 v hv⟩, hc.2.1, fun i hi2 => ?_⟩
    obtain ⟨a1, a2, a3⟩ := hc.2.2 i hi2
    have h6 := (hok.2.2.2 i hi2).2
    refine ⟨a1, ?_, fun k hk => ?_⟩
    · rw [md_sa_2, if_pos rfl, pk_un (by omega)]
      exact a2
    · rw [md_sa_2, if_neg (by decide)]
      unfold md_nn
      rw [md_fi_2, if_pos rfl]
      show (if 6 * cI c ≤ 6 * i + k ∧ 6 * i + k < 6 * cI c + sz then _ else _) = _
      rw [if_neg (by omega)]
      exact a3 k hk
  have hex : md_eR (md_sa (md_nn σ x st (cI c) sz) 7 (cI c) (nI sz)) (cN c) (sp_grow E n0) := he
  obtain ⟨r1, r2⟩ := md_nv_R (k := 1) (a := cI c) (b := 0) hcx hex hn0 hn (by decide) (by omega) (by decide)
  refine ⟨⟨⟨⟨rfl, Nat.le_succ_of_le hc.1.2.1, hn, fun v hv => r1.1.2.2.2 v hv⟩, rfl, fun i hi2 => ?_⟩, ⟨fun l hl => r2.1 l hl, r2.2⟩, ⟨hx.1, fun j hj => hx.2 j hj⟩⟩, ⟨fun j e3 e4 _ _ => ?_, fun q hq => ?_⟩, fun j hj => ?_⟩
  · have i2 : i < cI c + 1 := hi2
    show (upd (σ.2 5) (cI c) (nI (cN c))) i = nI (va_up (cV c) (cI c) (cN c) i) ∧ upd (σ.2 7) (cI c) (nI sz) i = nI (va_up (cS c) (cI c) sz i) ∧ ∀ k, k < va_up (cS c) (cI c) sz i → (if 6 * cI c ≤ 6 * i + k ∧ 6 * i + k < 6 * cI c + sz then x.1 (st + (6 * i + k - 6 * cI c)) else σ.2 6 (6 * i + k)) = va_up (cM c) (cI c) (fun k => x.1 (st + k)) i k
    by_cases e : i = cI c
    · subst e
      rw [va_up_self, va_up_self, va_up_self, pk_us, pk_us]
      refine ⟨rfl, rfl, fun k hk => ?_⟩
      rw [if_pos (by omega), show 6 * cI c + k - 6 * cI c = k by omega]
    · obtain ⟨a1, a2, a3⟩ := hc.2.2 i (by omega)
      have h6 := (hok.2.2.2 i (by omega)).2
      rw [va_up_ne _ _ e, va_up_ne _ _ e, va_up_ne _ _ e, pk_un e, pk_un e]
      refine ⟨a1, a2, fun k hk => ?_⟩
      rw [if_neg (by omega)]
      exact a3 k hk
  · unfold md_ni
    rw [md_si_1, if_neg e4, md_sa_1, (md_nv_o _ _ _ _ _).1 j e3]
    rfl
  · unfold md_ni
    rw [md_si_2, md_sa_2, if_neg (by omega), (md_nv_o _ _ _ _ _).2 q hq, md_sa_2, if_neg (by omega)]
    unfold md_nn
    rw [md_fi_2, if_neg (by omega)]
  · unfold md_ni
    rw [md_si_1, if_neg (by omega), md_sa_1, (md_nv_o _ _ _ _ _).1 j (by omega)]
    rfl
theorem c_inputAt (hP : md_P σ x E n0 s) (hL : md_L σ x s) (hok : sp_pok x n0 s) (h0 : pF s = 0) (hk : tK x s = 257) (hQ : ∀ σ2 v, md_P σ2 x E n0 (sp_name x s).2 → md_L σ2 x s → (pF (sp_name x s).2 = 0 → v = nI (sp_name x s).1) → md_ph σ σ2 → Q (some (.int v)) (md_put B σ2 g)) : ev_C X (d + 1) m_Md_inputAt [.ref B] (md_put B σ g) Q := by
  show ev_R X (d + 1) m_Md_inputAt 0 [some (.ref B), none, none, none] [] (md_put B σ g) Q
  obtain ⟨hb, h17, h18, hh⟩ := hP
  have hP : md_P σ x E n0 s := ⟨hb, h17, h18, hh⟩
  have hz6 := sp_tw_257 hk
  have hts := sp_ts_le hok.2.2.1
  have hsz := (sp_tw_sz hts.2).1
  have h24 := hok.1.1.2.2
  have h120 := hok.1.1.2.1
  have e0 : (0 : Int32) = nI 0 := rfl
  have z17 : σ.1 17 = 0 := by rw [h17, h0]; rfl
  have h14 := hL.2.2.1
  have h15 := hL.2.2.2
  simp (disch := first | exact ev_ok_i _ | exact ev_ok_r _ | exact ev_ok_n | omega | assumption) only [e_Md_inputAt_0, e_Md_inputAt_1, ev_rm_n, ev_rm_i, ev_rm_r, ev_rm_l, ev_ok_n, ev_ok_i, ev_ok_r, Option.toList_some, Option.toList_none, List.cons_append, List.nil_append, true_and, and_true, true_or, or_true, reduceIte, Nat.reduceEqDiff, if_true, if_false]
  rw [e0]
  refine c_in_out (c := pC s) (x := x) (st := tS x s) (sz := tZ x s) hb.1 hok.1 hb.2.2 hok.2.2.2.2 h14 h15 hsz (cI (pC s)) 0 none none (by omega) ?_
  unfold sp_name at hQ
  have hinp : sp_inp (pC s) x (tS x s) (tZ x s) = sp_fd (fun i => decide (sp_nq (pC s) x (tS x s) (tZ x s) i)) 0 (cI (pC s)) := rfl
  rw [hinp] at hQ
  cases hf : sp_fd (fun i => decide (sp_nq (pC s) x (tS x s) (tZ x s) i)) 0 (cI (pC s)) with
  | some i =>
    rw [hf] at hQ
    exact hQ σ _ hP hL (fun _ => rfl) (md_ph_rf σ)
  | none =>
    rw [hf] at hQ
    dsimp only at hQ ⊢
    intro l1 l2 l3
    have h4 := hb.1.2.1
    have h3 := hb.1.1.1
    simp (disch := first | exact ev_ok_i _ | exact ev_ok_r _ | exact ev_ok_n | omega | assumption) only [e_Md_inputAt_99, e_Md_inputAt_100, e_Md_inputAt_103, e_Md_inputAt_105, ev_rm_n, ev_rm_i, ev_rm_r, ev_rm_l, ev_ok_n, ev_ok_i, ev_ok_r, Option.toList_some, Option.toList_none, List.cons_append, List.nil_append, true_and, and_true, true_or, or_true, reduceIte, Nat.reduceEqDiff, if_true, if_false, md_rc, md_si_1, md_si_2, md_sa_1, md_sa_2, mg_kind, mr_kind, mw_kind, mg_one, mr_one, mw_one, mg_two, mr_two, mw_two, mg_variables, mp_variables, mg_inputs, mp_inputs, mg_inputOf, mr_inputOf, mw_inputOf, mg_nameSign, mr_nameSign, mw_nameSign, mg_nameSize, mr_nameSize, mw_nameSize, mg_label, mr_label, mw_label, mg_isContrary, mp_isContrary, mg_text, mr_text, mw_text, mg_textSize, mp_textSize, mg_at, mp_at, mg_token, mp_token, mg_tokenAt, mp_tokenAt, mg_tokenSize, mp_tokenSize, mg_scanned, mp_scanned, mg_fault, mp_fault, mg_faultAt, mp_faultAt, mg_place, mp_place, mg_open, mp_open, mg_level, mr_level, mw_level, mg_stage, mr_stage, mw_stage, mg_held, mr_held, mw_held, mg_signPlace, mr_signPlace, mw_signPlace, mg_value, mp_value, mg_row, mr_row, mw_row, mg_contrary, mr_contrary, mw_contrary, mg_firstRow, mr_firstRow, mw_firstRow, mg_firstContrary, mr_firstContrary, mw_firstContrary, mg_depthOf, mr_depthOf, mw_depthOf, mg_phase, mr_phase, mw_phase, mg_tried, mr_tried, mw_tried, mg_before, mr_before, mw_before, mg_old, mr_old, mw_old, mg_steps, mp_steps, mg_mostSteps, mp_mostSteps, mg_rounds, mp_rounds, mg_passes, mp_passes, mg_branches, mp_branches, mg_worth, mr_worth, mw_worth, h4, nE_24]
    by_cases c24 : cI (pC s) = 24
    · rw [if_pos c24] at hQ
      have hfl := fun Q => c_fail0 (X := X) (d := d) (B := B) (g := g) (Q := Q) z17 4 (nI (tS x s))
      simp (disch := first | exact ev_ok_i _ | exact ev_ok_r _ | exact ev_ok_n | omega | assumption) only [c24, e_Md_inputAt_117, e_Md_inputAt_118, e_Md_inputAt_119, e_Md_inputAt_122, e_Md_inputAt_124, e_Md_inputAt_127, e_Md_inputAt_128, e_Md_inputAt_131, e_Md_inputAt_132, e_Md_inputAt_133, e_Md_inputAt_136, e_Md_inputAt_139, e_Md_inputAt_140, e_Md_inputAt_141, ev_rm_n, ev_rm_i, ev_rm_r, ev_rm_l, ev_ok_n, ev_ok_i, ev_ok_r, Option.toList_some, Option.toList_none, List.cons_append, List.nil_append, true_and, and_true, true_or, or_true, reduceIte, Nat.reduceEqDiff, if_true, if_false, md_rc, md_si_1, md_si_2, md_sa_1, md_sa_2, mg_kind, mr_kind, mw_kind, mg_one, mr_one, mw_one, mg_two, mr_two, mw_two, mg_variables, mp_variables, mg_inputs, mp_inputs, mg_inputOf, mr_inputOf, mw_inputOf, mg_nameSign, mr_nameSign, mw_nameSign, mg_nameSize, mr_nameSize, mw_nameSize, mg_label, mr_label, mw_label, mg_isContrary, mp_isContrary, mg_text, mr_text, mw_text, mg_textSize, mp_textSize, mg_at, mp_at, mg_token, mp_token, mg_tokenAt, mp_tokenAt, mg_tokenSize, mp_tokenSize, mg_scanned, mp_scanned, mg_fault, mp_fault, mg_faultAt, mp_faultAt, mg_place, mp_place, mg_open, mp_open, mg_level, mr_level, mw_level, mg_stage, mr_stage, mw_stage, mg_held, mr_held, mw_held, mg_signPlace, mr_signPlace, mw_signPlace, mg_value, mp_value, mg_row, mr_row, mw_row, mg_contrary, mr_contrary, mw_contrary, mg_firstRow, mr_firstRow, mw_firstRow, mg_firstContrary, mr_firstContrary, mw_firstContrary, mg_depthOf, mr_depthOf, mw_depthOf, mg_phase, mr_phase, mw_phase, mg_tried, mr_tried, mw_tried, mg_before, mr_before, mw_before, mg_old, mr_old, mw_old, mg_steps, mp_steps, mg_mostSteps, mp_mostSteps, mg_rounds, mp_rounds, mg_passes, mp_passes, mg_branches, mp_branches, mg_worth, mr_worth, mw_worth, h4, nE_24, not_true_eq_false, h14, hfl]
      refine hQ _ _ (md_P_fail (k := 4) hb h0 (by decide)) hL (fun z => ?_) (md_ph_fail σ _ _)
      have z2 : pF (sp_fail s 4 (tS x s)) = 0 := z
      rw [sp_fail_0 h0] at z2
      exact absurd z2 (by show ¬ (4 : Nat) = 0; decide)
    · rw [if_neg c24] at hQ
      simp (disch := first | exact ev_ok_i _ | exact ev_ok_r _ | exact ev_ok_n | omega | assumption) only [c24, e_Md_inputAt_108, e_Md_inputAt_109, e_Md_inputAt_112, e_Md_inputAt_114, ev_rm_n, ev_rm_i, ev_rm_r, ev_rm_l, ev_ok_n, ev_ok_i, ev_ok_r, Option.toList_some, Option.toList_none, List.cons_append, List.nil_append, true_and, and_true, true_or, or_true, reduceIte, Nat.reduceEqDiff, if_true, if_false, md_rc, md_si_1, md_si_2, md_sa_1, md_sa_2, mg_kind, mr_kind, mw_kind, mg_one, mr_one, mw_one, mg_two, mr_two, mw_two, mg_variables, mp_variables, mg_inputs, mp_inputs, mg_inputOf, mr_inputOf, mw_inputOf, mg_nameSign, mr_nameSign, mw_nameSign, mg_nameSize, mr_nameSize, mw_nameSize, mg_label, mr_label, mw_label, mg_isContrary, mp_isContrary, mg_text, mr_text, mw_text, mg_textSize, mp_textSize, mg_at, mp_at, mg_token, mp_token, mg_tokenAt, mp_tokenAt, mg_tokenSize, mp_tokenSize, mg_scanned, mp_scanned, mg_fault, mp_fault, mg_faultAt, mp_faultAt, mg_place, mp_place, mg_open, mp_open, mg_level, mr_level, mw_level, mg_stage, mr_stage, mw_stage, mg_held, mr_held, mw_held, mg_signPlace, mr_signPlace, mw_signPlace, mg_value, mp_value, mg_row, mr_row, mw_row, mg_contrary, mr_contrary, mw_contrary, mg_firstRow, mr_firstRow, mw_firstRow, mg_firstContrary, mr_firstContrary, mw_firstContrary, mg_depthOf, mr_depthOf, mw_depthOf, mg_phase, mr_phase, mw_phase, mg_tried, mr_tried, mw_tried, mg_before, mr_before, mw_before, mg_old, mr_old, mw_old, mg_steps, mp_steps, mg_mostSteps, mp_mostSteps, mg_rounds, mp_rounds, mg_passes, mp_passes, mg_branches, mp_branches, mg_worth, mr_worth, mw_worth, h3, nE_120]
      by_cases c120 : cN (pC s) = 120
      · rw [if_pos c120] at hQ
        have hfl := fun Q => c_fail0 (X := X) (d := d) (B := B) (g := g) (Q := Q) z17 5 (nI (tS x s))
        simp (disch := first | exact ev_ok_i _ | exact ev_ok_r _ | exact ev_ok_n | omega | assumption) only [c120, e_Md_inputAt_117, e_Md_inputAt_118, e_Md_inputAt_119, e_Md_inputAt_122, e_Md_inputAt_124, e_Md_inputAt_127, e_Md_inputAt_128, e_Md_inputAt_131, e_Md_inputAt_132, e_Md_inputAt_133, e_Md_inputAt_136, e_Md_inputAt_139, e_Md_inputAt_140, e_Md_inputAt_141, ev_rm_n, ev_rm_i, ev_rm_r, ev_rm_l, ev_ok_n, ev_ok_i, ev_ok_r, Option.toList_some, Option.toList_none, List.cons_append, List.nil_append, true_and, and_true, true_or, or_true, reduceIte, Nat.reduceEqDiff, if_true, if_false, md_rc, md_si_1, md_si_2, md_sa_1, md_sa_2, mg_kind, mr_kind, mw_kind, mg_one, mr_one, mw_one, mg_two, mr_two, mw_two, mg_variables, mp_variables, mg_inputs, mp_inputs, mg_inputOf, mr_inputOf, mw_inputOf, mg_nameSign, mr_nameSign, mw_nameSign, mg_nameSize, mr_nameSize, mw_nameSize, mg_label, mr_label, mw_label, mg_isContrary, mp_isContrary, mg_text, mr_text, mw_text, mg_textSize, mp_textSize, mg_at, mp_at, mg_token, mp_token, mg_tokenAt, mp_tokenAt, mg_tokenSize, mp_tokenSize, mg_scanned, mp_scanned, mg_fault, mp_fault, mg_faultAt, mp_faultAt, mg_place, mp_place, mg_open, mp_open, mg_level, mr_level, mw_level, mg_stage, mr_stage, mw_stage, mg_held, mr_held, mw_held, mg_signPlace, mr_signPlace, mw_signPlace, mg_value, mp_value, mg_row, mr_row, mw_row, mg_contrary, mr_contrary, mw_contrary, mg_firstRow, mr_firstRow, mw_firstRow, mg_firstContrary, mr_firstContrary, mw_firstContrary, mg_depthOf, mr_depthOf, mw_depthOf, mg_phase, mr_phase, mw_phase, mg_tried, mr_tried, mw_tried, mg_before, mr_before, mw_before, mg_old, mr_old, mw_old, mg_steps, mp_steps, mg_mostSteps, mp_mostSteps, mg_rounds, mp_rounds, mg_passes, mp_passes, mg_branches, mp_branches, mg_worth, mr_worth, mw_worth, h4, nE_24, c24, not_true_eq_false, not_false_eq_true, h14, hfl]
        refine hQ _ _ (md_P_fail (k := 5) hb h0 (by decide)) hL (fun z => ?_) (md_ph_fail σ _ _)
        have z2 : pF (sp_fail s 5 (tS x s)) = 0 := z
        rw [sp_fail_0 h0] at z2
        exact absurd z2 (by show ¬ (5 : Nat) = 0; decide)
      · rw [if_neg c120] at hQ
        have hnn := c_in_nn (X := X) (d := d + 1) (B := B) (g := g) (Q := Q) (σ := σ) (x := x) (st := tS x s) (sz := tZ x s) (i := cI (pC s)) (l2 := l2) (l3 := l3) h4 (by omega) hb.2.2 hok.2.2.2.2 h14 h15 hsz hz6 (tZ x s) 0 (by omega)
        have en : md_nn σ x (tS x s) (cI (pC s)) 0 = σ := md_fi_0 σ 6 _ _
        rw [en] at hnn
        simp (disch := first | exact ev_ok_i _ | exact ev_ok_r _ | exact ev_ok_n | omega | assumption) only [c120, not_false_eq_true, e_Md_inputAt_142, e_Md_inputAt_143, ev_rm_n, ev_rm_i, ev_rm_r, ev_rm_l, ev_ok_n, ev_ok_i, ev_ok_r, Option.toList_some, Option.toList_none, List.cons_append, List.nil_append, true_and, and_true, true_or, or_true, reduceIte, Nat.reduceEqDiff, if_true, if_false]
        rw [e0, hnn]
        have k1 : (md_nn σ x (tS x s) (cI (pC s)) (tZ x s)).1 = σ.1 := rfl
        have hnv := fun Q => c_newVariable (X := X) (d := d) (B := B) (g := g) (Q := Q) (σ := md_sa (md_nn σ x (tS x s) (cI (pC s)) (tZ x s)) 7 (cI (pC s)) (nI (tZ x s))) (v := cN (pC s)) h3 (by omega) 1 (nI (cI (pC s))) 0
        have kv : (md_nv (md_sa (md_nn σ x (tS x s) (cI (pC s)) (tZ x s)) 7 (cI (pC s)) (nI (tZ x s))) (cN (pC s)) 1 (nI (cI (pC s))) 0).1 4 = nI (cI (pC s)) := h4
        have em : nI (cI (pC s) + 1) - 1 = nI (cI (pC s)) := nI_pred _
        simp (disch := first | exact ev_ok_i _ | exact ev_ok_r _ | exact ev_ok_n | omega | assumption) only [e_Md_inputAt_183, e_Md_inputAt_184, e_Md_inputAt_187, e_Md_inputAt_188, e_Md_inputAt_191, e_Md_inputAt_192, e_Md_inputAt_195, e_Md_inputAt_196, e_Md_inputAt_197, e_Md_inputAt_200, e_Md_inputAt_201, e_Md_inputAt_204, e_Md_inputAt_205, e_Md_inputAt_206, e_Md_inputAt_207, e_Md_inputAt_210, e_Md_inputAt_211, e_Md_inputAt_214, e_Md_inputAt_215, e_Md_inputAt_216, e_Md_inputAt_217, e_Md_inputAt_220, e_Md_inputAt_221, e_Md_inputAt_222, ev_rm_n, ev_rm_i, ev_rm_r, ev_rm_l, ev_ok_n, ev_ok_i, ev_ok_r, Option.toList_some, Option.toList_none, List.cons_append, List.nil_append, true_and, and_true, true_or, or_true, reduceIte, Nat.reduceEqDiff, if_true, if_false, md_rc, md_si_1, md_si_2, md_sa_1, md_sa_2, mg_kind, mr_kind, mw_kind, mg_one, mr_one, mw_one, mg_two, mr_two, mw_two, mg_variables, mp_variables, mg_inputs, mp_inputs, mg_inputOf, mr_inputOf, mw_inputOf, mg_nameSign, mr_nameSign, mw_nameSign, mg_nameSize, mr_nameSize, mw_nameSize, mg_label, mr_label, mw_label, mg_isContrary, mp_isContrary, mg_text, mr_text, mw_text, mg_textSize, mp_textSize, mg_at, mp_at, mg_token, mp_token, mg_tokenAt, mp_tokenAt, mg_tokenSize, mp_tokenSize, mg_scanned, mp_scanned, mg_fault, mp_fault, mg_faultAt, mp_faultAt, mg_place, mp_place, mg_open, mp_open, mg_level, mr_level, mw_level, mg_stage, mr_stage, mw_stage, mg_held, mr_held, mw_held, mg_signPlace, mr_signPlace, mw_signPlace, mg_value, mp_value, mg_row, mr_row, mw_row, mg_contrary, mr_contrary, mw_contrary, mg_firstRow, mr_firstRow, mw_firstRow, mg_firstContrary, mr_firstContrary, mw_firstContrary, mg_depthOf, mr_depthOf, mw_depthOf, mg_phase, mr_phase, mw_phase, mg_tried, mr_tried, mw_tried, mg_before, mr_before, mw_before, mg_old, mr_old, mw_old, mg_steps, mp_steps, mg_mostSteps, mp_mostSteps, mg_rounds, mp_rounds, mg_passes, mp_passes, mg_branches, mp_branches, mg_worth, mr_worth, mw_worth, k1, h4, h15, xo_in, nI_clamp, hnv, kv, nI_1]
        obtain ⟨r1, r2, r3⟩ := md_ni_R (E := E) (n0 := n0) (x := x) (st := tS x s) (sz := tZ x s) hok.1 hb hok.2.1 (by omega) (by omega) hz6
        have eσ : md_si (md_sa (md_nv (md_sa (md_nn σ x (tS x s) (cI (pC s)) (tZ x s)) 7 (cI (pC s)) (nI (tZ x s))) (cN (pC s)) 1 (nI (cI (pC s))) 0) 5 (cI (pC s)) (nI (cN (pC s)))) 4 (nI (cI (pC s) + 1)) = md_ni σ x (tS x s) (tZ x s) (cI (pC s)) (cN (pC s)) := rfl
        rw [eσ]
        have k4 : (md_ni σ x (tS x s) (tZ x s) (cI (pC s)) (cN (pC s))).1 4 = nI (cI (pC s) + 1) := rfl
        have k5 : (md_ni σ x (tS x s) (tZ x s) (cI (pC s)) (cN (pC s))).2 5 (cI (pC s)) = nI (cN (pC s)) := pk_us
        simp (disch := first | exact ev_ok_i _ | exact ev_ok_r _ | exact ev_ok_n | omega | assumption) only [e_Md_inputAt_225, e_Md_inputAt_226, e_Md_inputAt_227, e_Md_inputAt_230, e_Md_inputAt_231, e_Md_inputAt_234, e_Md_inputAt_235, e_Md_inputAt_236, e_Md_inputAt_237, e_Md_inputAt_238, ev_rm_n, ev_rm_i, ev_rm_r, ev_rm_l, ev_ok_n, ev_ok_i, ev_ok_r, Option.toList_some, Option.toList_none, List.cons_append, List.nil_append, true_and, and_true, true_or, or_true, reduceIte, Nat.reduceEqDiff, if_true, if_false, md_rc, md_si_1, md_si_2, md_sa_1, md_sa_2, mg_kind, mr_kind, mw_kind, mg_one, mr_one, mw_one, mg_two, mr_two, mw_two, mg_variables, mp_variables, mg_inputs, mp_inputs, mg_inputOf, mr_inputOf, mw_inputOf, mg_nameSign, mr_nameSign, mw_nameSign, mg_nameSize, mr_nameSize, mw_nameSize, mg_label, mr_label, mw_label, mg_isContrary, mp_isContrary, mg_text, mr_text, mw_text, mg_textSize, mp_textSize, mg_at, mp_at, mg_token, mp_token, mg_tokenAt, mp_tokenAt, mg_tokenSize, mp_tokenSize, mg_scanned, mp_scanned, mg_fault, mp_fault, mg_faultAt, mp_faultAt, mg_place, mp_place, mg_open, mp_open, mg_level, mr_level, mw_level, mg_stage, mr_stage, mw_stage, mg_held, mr_held, mw_held, mg_signPlace, mr_signPlace, mw_signPlace, mg_value, mp_value, mg_row, mr_row, mw_row, mg_contrary, mr_contrary, mw_contrary, mg_firstRow, mr_firstRow, mw_firstRow, mg_firstContrary, mr_firstContrary, mw_firstContrary, mg_depthOf, mr_depthOf, mw_depthOf, mg_phase, mr_phase, mw_phase, mg_tried, mr_tried, mw_tried, mg_before, mr_before, mw_before, mg_old, mr_old, mw_old, mg_steps, mp_steps, mg_mostSteps, mp_mostSteps, mg_rounds, mp_rounds, mg_passes, mp_passes, mg_branches, mp_branches, mg_worth, mr_worth, mw_worth, k4, em, xo_in, nI_clamp, k5, nL_2]
        have hL2 : md_L (md_ni σ x (tS x s) (tZ x s) (cI (pC s)) (cN (pC s))) x s := ⟨by rw [r3 16 (by decide)]; exact hL.1, by rw [r3 13 (by decide)]; exact hL.2.1, by rw [r3 14 (by decide)]; exact hL.2.2.1, by rw [r3 15 (by decide)]; exact hL.2.2.2⟩
        refine hQ _ _ ⟨r1, by rw [r3 17 (by decide)]; exact h17, fun z => absurd h0 z, fun _ => ⟨by rw [r3 20 (by decide)]; exact (hh h0).1, Or.inr ⟨hL2, ?_⟩⟩⟩ hL2 (fun _ => rfl) r2
        show ¬ tK x s = 262
        rw [hk]
        decide
/-- the frame d holds a value, its sign's place; the token is passed -/
theorem c_hold {v nx fr : Nat} (hP : md_P σ x E n0 s) (hL : md_L σ x s) (h0 : pF s = 0) (hf : fr < 400) (hQ : ∀ σ2, md_P σ2 x E n0 (sp_pass x s) → md_ph (md_sa (md_sa (md_sa σ 23 fr (nI v)) 24 fr (nI (tS x s))) 22 fr 1) σ2 → Q (some (.int (nI nx))) (md_put B σ2 g)) : ev_C X (d + 1) m_Md_hold [.ref B, .int (nI fr), .int (nI v), .int (nI nx)] (md_put B σ g) Q := by
  show ev_R X (d + 1) m_Md_hold 0 [some (.ref B), some (.int (nI fr)), some (.int (nI v)), some (.int (nI nx))] [] (md_put B σ g) Q
  have h14 := hL.2.2.1
  simp (disch := first | exact ev_ok_i _ | exact ev_ok_r _ | exact ev_ok_n | omega | assumption) only [e_Md_hold_0, e_Md_hold_1, e_Md_hold_4, e_Md_hold_5, e_Md_hold_6, e_Md_hold_7, e_Md_hold_8, e_Md_hold_11, e_Md_hold_12, e_Md_hold_13, e_Md_hold_16, e_Md_hold_17, e_Md_hold_18, e_Md_hold_21, e_Md_hold_22, e_Md_hold_23, e_Md_hold_24, e_Md_hold_25, ev_rm_n, ev_rm_i, ev_rm_r, ev_rm_l, ev_ok_n, ev_ok_i, ev_ok_r, Option.toList_some, Option.toList_none, List.cons_append, List.nil_append, true_and, and_true, true_or, or_true, reduceIte, Nat.reduceEqDiff, if_true, if_false, md_rc, md_si_1, md_si_2, md_sa_1, md_sa_2, mg_kind, mr_kind, mw_kind, mg_one, mr_one, mw_one, mg_two, mr_two, mw_two, mg_variables, mp_variables, mg_inputs, mp_inputs, mg_inputOf, mr_inputOf, mw_inputOf, mg_nameSign, mr_nameSign, mw_nameSign, mg_nameSize, mr_nameSize, mw_nameSize, mg_label, mr_label, mw_label, mg_isContrary, mp_isContrary, mg_text, mr_text, mw_text, mg_textSize, mp_textSize, mg_at, mp_at, mg_token, mp_token, mg_tokenAt, mp_tokenAt, mg_tokenSize, mp_tokenSize, mg_scanned, mp_scanned, mg_fault, mp_fault, mg_faultAt, mp_faultAt, mg_place, mp_place, mg_open, mp_open, mg_level, mr_level, mw_level, mg_stage, mr_stage, mw_stage, mg_held, mr_held, mw_held, mg_signPlace, mr_signPlace, mw_signPlace, mg_value, mp_value, mg_row, mr_row, mw_row, mg_contrary, mr_contrary, mw_contrary, mg_firstRow, mr_firstRow, mw_firstRow, mg_firstContrary, mr_firstContrary, mw_firstContrary, mg_depthOf, mr_depthOf, mw_depthOf, mg_phase, mr_phase, mw_phase, mg_tried, mr_tried, mw_tried, mg_before, mr_before, mw_before, mg_old, mr_old, mw_old, mg_steps, mp_steps, mg_mostSteps, mp_mostSteps, mg_rounds, mp_rounds, mg_passes, mp_passes, mg_branches, mp_branches, mg_worth, mr_worth, mw_worth, xo_in, nI_clamp, h14]
  refine c_pass (s := s) (x := x) (E := E) (n0 := n0) (md_P_base hP.1 (fun _ _ => rfl) (fun q hq => by simp only [md_sa_2]; rw [if_neg (by omega), if_neg (by omega), if_neg (by omega)])) hL hP.2.1 hP.2.2.1 (fun z => (hP.2.2.2 z).1) (fun σ2 p1 p2 => ?_)
  simp (disch := first | exact ev_ok_i _ | exact ev_ok_r _ | exact ev_ok_n | omega | assumption) only [e_Md_hold_28, e_Md_hold_29, ev_rm_n, ev_rm_i, ev_rm_r, ev_rm_l, ev_ok_n, ev_ok_i, ev_ok_r, Option.toList_some, Option.toList_none, List.cons_append, List.nil_append, true_and, and_true, true_or, or_true, reduceIte, Nat.reduceEqDiff, if_true, if_false]
  exact hQ σ2 p1 p2
end M24
