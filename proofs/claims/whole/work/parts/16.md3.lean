/-! a row of labels as one value: joins, rules, rounds -/
abbrev sp_E : Type := (Nat → Nat) × Bool
def sp_zb (b : Bool) : Int32 := if b then 1 else 0
/-- a and b are joined -/
def sp_j (E : sp_E) (a b : Nat) : sp_E := if E.2 = true ∨ E.1 a = E.1 b then E else if E.1 a = E.1 (b ^^^ 1) then (E.1, true) else (fun l => md_jl (E.1 a) (E.1 b) (E.1 (a ^^^ 1)) (E.1 (b ^^^ 1)) (E.1 l), false)
def sp_bd (n : Nat) (E : sp_E) : Prop := ∀ l, l < 2 * n → E.1 l < 2 * n
theorem sp_mn_lt {a b c : Nat} (ha : a < c) (hb : b < c) : sp_mn a b < c := by unfold sp_mn; split <;> assumption
theorem sp_j_bd {n a b : Nat} {E : sp_E} (h : sp_bd n E) (ha : a < 2 * n) (hb : b < 2 * n) : sp_bd n (sp_j E a b) := by
  unfold sp_j
  split
  · exact h
  · split
    · exact h
    · intro l hl
      show md_jl _ _ _ _ _ < _
      unfold md_jl
      split
      · exact sp_mn_lt (h _ ha) (h _ hb)
      · split
        · exact sp_mn_lt (h _ (xor1_lt ha)) (h _ (xor1_lt hb))
        · exact h l hl
/-- the row f holds E -/
def md_wr (σ : md_S) (n f : Nat) (E : sp_E) : md_S := md_sa (md_fi σ 26 (fun j => nI (E.1 (j - 240 * f))) (240 * f) (240 * f + 2 * n)) 27 f (sp_zb E.2)
theorem md_wr_1 (σ : md_S) (n f : Nat) (E : sp_E) : (md_wr σ n f E).1 = σ.1 := rfl
theorem md_wr_2 (σ : md_S) (n f : Nat) (E : sp_E) {q : Nat} (h1 : ¬ q = 26) (h2 : ¬ q = 27) : (md_wr σ n f E).2 q = σ.2 q := by
  unfold md_wr
  rw [md_sa_2, if_neg h2, md_fi_2, if_neg h1]
theorem md_wr_row (σ : md_S) {n f l : Nat} (E : sp_E) (h : l < 2 * n) : (md_wr σ n f E).2 26 (240 * f + l) = nI (E.1 l) := by
  unfold md_wr
  rw [md_sa_2, if_neg (by decide), md_fi_2, if_pos rfl, if_pos (by omega), Nat.add_sub_cancel_left]
theorem md_wr_row2 (σ : md_S) {n f k l : Nat} (E : sp_E) (hn : n ≤ 120) (h : l < 240) (hk : ¬ k = f) : (md_wr σ n f E).2 26 (240 * k + l) = σ.2 26 (240 * k + l) := by
  unfold md_wr
  rw [md_sa_2, if_neg (by decide), md_fi_2, if_pos rfl, if_neg]
  rintro ⟨h1, h2⟩
  rcases Nat.lt_or_gt_of_ne hk with h | h
  · have := Nat.mul_le_mul_left 240 (Nat.succ_le_of_lt h)
    omega
  · have := Nat.mul_le_mul_left 240 (Nat.succ_le_of_lt h)
    omega
theorem md_wr_c (σ : md_S) (n f : Nat) (E : sp_E) : (md_wr σ n f E).2 27 f = sp_zb E.2 := by
  unfold md_wr
  rw [md_sa_2, if_pos rfl, pk_us]
theorem md_wr_c2 (σ : md_S) {n f k : Nat} (E : sp_E) (h : ¬ k = f) : (md_wr σ n f E).2 27 k = σ.2 27 k := by
  unfold md_wr
  rw [md_sa_2, if_pos rfl, pk_un h, md_fi_2, if_neg (by decide)]
theorem sp_zb_01 (b : Bool) : sp_zb b = 0 ∨ sp_zb b = 1 := by cases b <;> simp [sp_zb]
theorem md_S_ext {a b : md_S} (h1 : a.1 = b.1) (h2 : ∀ q j, a.2 q j = b.2 q j) : a = b := Prod.ext h1 (funext fun q => funext fun j => h2 q j)
theorem md_wr_wr (σ : md_S) (n f : Nat) (E E2 : sp_E) : md_wr (md_wr σ n f E) n f E2 = md_wr σ n f E2 := by
  refine md_S_ext rfl (fun q j => ?_)
  unfold md_wr
  simp only [md_sa_2, md_fi_2]
  by_cases h27 : q = 27
  · subst h27
    simp only [upd, if_true]
    by_cases hj : j = f <;> simp [hj, upd]
  · by_cases h26 : q = 26
    · subst h26
      simp only [if_true, h27, if_false]
      by_cases hj : 240 * f ≤ j ∧ j < 240 * f + 2 * n
      · simp only [if_pos hj]
      · simp only [if_neg hj]
    · simp [h27, h26]
theorem md_jn_wr (σ : md_S) (n f a b : Nat) (E : sp_E) : (md_jn (md_wr σ n f E) n f a b E.1).2 = md_wr σ n f (sp_j E a b) ∧ (md_jn (md_wr σ n f E) n f a b E.1).1 = if E.2 = true ∨ E.1 a = E.1 b ∨ E.1 a = E.1 (b ^^^ 1) then 0 else 1 := by
  unfold md_jn sp_j
  rw [md_wr_c]
  cases hc : E.2 with
  | true => simp [sp_zb]
  | false =>
    by_cases h1 : E.1 a = E.1 b
    · simp [h1]
    · by_cases h2 : E.1 a = E.1 (b ^^^ 1)
      · rw [h2] at h1
        simp only [h2, h1, sp_zb, if_false, or_self, ne_eq, not_true_eq_false, Bool.false_eq_true, if_true, or_true, and_true]
        refine md_S_ext rfl (fun q j => ?_)
        unfold md_wr
        simp only [md_sa_2, md_fi_2]
        by_cases h27 : q = 27
        · subst h27
          simp only [upd, if_true, sp_zb]
          by_cases hj : j = f <;> simp [hj]
        · by_cases h26 : q = 26
          · subst h26
            simp
          · simp [h27, h26]
      · simp only [h2, h1, sp_zb, if_false, or_self, ne_eq, not_true_eq_false, Bool.false_eq_true, and_true]
        refine md_S_ext rfl (fun q j => ?_)
        unfold md_wr md_jr
        simp only [md_sa_2, md_fi_2]
        by_cases h27 : q = 27
        · subst h27
          simp [upd, sp_zb, hc]
        · by_cases h26 : q = 26
          · subst h26
            simp only [if_true, h27, if_false]
            by_cases hj : 240 * f ≤ j ∧ j < 240 * f + 2 * n
            · simp only [if_pos hj]
            · simp only [if_neg hj]
          · simp [h27, h26]
theorem zi_0 (p : Prop) [Decidable p] : (zi p = 0) = ¬ p := by unfold zi; split <;> simp_all
theorem zi_01 (p : Prop) [Decidable p] : (zi p = 0 ∨ zi p = 1) = True := by unfold zi; split <;> simp
section M3
variable {X : xo_X} {d B : Nat} {σ : md_S} {g : xo_G} {Q : Option Value → xo_G → Prop}
theorem c_join2 {n f a b : Nat} (h1 : σ.1 3 = nI n) (hn : n ≤ 120) (hf : f < 6) {E : sp_E} (hE : sp_bd n E) (ha : a < 2 * n) (hb : b < 2 * n) : ev_C X (d + 1) m_Md_join2 [.ref B, .int (nI f), .int (nI a), .int (nI b)] (md_put B (md_wr σ n f E) g) Q ↔ Q none (md_put B (md_wr σ n f (sp_j E a b)) g) := by
  show ev_R X (d + 1) m_Md_join2 0 [some (.ref B), some (.int (nI f)), some (.int (nI a)), some (.int (nI b)), none] [] (md_put B (md_wr σ n f E) g) Q ↔ _
  have hj := fun Q => c_joined (X := X) (d := d) (B := B) (g := g) (Q := Q) (σ := md_wr σ n f E) (f := f) h1 hn hf ha hb (lb := E.1) (fun l hl => ⟨md_wr_row σ E hl, by have := hE l hl; omega⟩)
  simp (disch := first | exact ev_ok_i _ | exact ev_ok_r _ | exact ev_ok_n | omega | assumption) only [e_Md_join2_0, e_Md_join2_1, e_Md_join2_2, e_Md_join2_3, e_Md_join2_4, e_Md_join2_7, e_Md_join2_9, ev_rm_n, ev_rm_i, ev_rm_r, ev_rm_l, ev_ok_n, ev_ok_i, ev_ok_r, Option.toList_some, Option.toList_none, List.cons_append, List.nil_append, true_and, and_true, true_or, or_true, reduceIte, Nat.reduceEqDiff, if_true, if_false, md_rc, md_si_1, md_si_2, md_sa_1, md_sa_2, mg_kind, mr_kind, mw_kind, mg_one, mr_one, mw_one, mg_two, mr_two, mw_two, mg_variables, mp_variables, mg_inputs, mp_inputs, mg_inputOf, mr_inputOf, mw_inputOf, mg_nameSign, mr_nameSign, mw_nameSign, mg_nameSize, mr_nameSize, mw_nameSize, mg_label, mr_label, mw_label, mg_isContrary, mp_isContrary, mg_text, mr_text, mw_text, mg_textSize, mp_textSize, mg_at, mp_at, mg_token, mp_token, mg_tokenAt, mp_tokenAt, mg_tokenSize, mp_tokenSize, mg_scanned, mp_scanned, mg_fault, mp_fault, mg_faultAt, mp_faultAt, mg_place, mp_place, mg_open, mp_open, mg_level, mr_level, mw_level, mg_stage, mr_stage, mw_stage, mg_held, mr_held, mw_held, mg_signPlace, mr_signPlace, mw_signPlace, mg_value, mp_value, mg_row, mr_row, mw_row, mg_contrary, mr_contrary, mw_contrary, mg_firstRow, mr_firstRow, mw_firstRow, mg_firstContrary, mr_firstContrary, mw_firstContrary, mg_depthOf, mr_depthOf, mw_depthOf, mg_phase, mr_phase, mw_phase, mg_tried, mr_tried, mw_tried, mg_before, mr_before, mw_before, mg_old, mr_old, mw_old, mg_steps, mp_steps, mg_mostSteps, mp_mostSteps, mg_rounds, mp_rounds, mg_passes, mp_passes, mg_branches, mp_branches, mg_worth, mr_worth, mw_worth, hj]
  rw [(md_jn_wr σ n f a b E).1]
theorem c_is {n a b : Nat} {ol : Nat → Nat} (ho : ∀ l, l < 2 * n → σ.2 34 l = nI (ol l) ∧ ol l < 2 ^ 31) (hn : n ≤ 120) (ha : a < 2 * n) (hb : b < 2 * n) : ev_C X d m_Md_is [.ref B, .int (nI a), .int (nI b)] (md_put B σ g) Q ↔ Q (some (.int (zi (ol a = ol b)))) (md_put B σ g) := by
  show ev_R X d m_Md_is 0 [some (.ref B), some (.int (nI a)), some (.int (nI b))] [] (md_put B σ g) Q ↔ _
  obtain ⟨a1, a2⟩ := ho a ha
  obtain ⟨b1, b2⟩ := ho b hb
  simp (disch := first | exact ev_ok_i _ | exact ev_ok_r _ | exact ev_ok_n | omega | assumption) only [e_Md_is_0, e_Md_is_1, e_Md_is_4, e_Md_is_5, e_Md_is_6, e_Md_is_7, e_Md_is_10, e_Md_is_11, e_Md_is_12, e_Md_is_15, e_Md_is_16, e_Md_is_19, e_Md_is_20, ev_rm_n, ev_rm_i, ev_rm_r, ev_rm_l, ev_ok_n, ev_ok_i, ev_ok_r, Option.toList_some, Option.toList_none, List.cons_append, List.nil_append, true_and, and_true, true_or, or_true, reduceIte, Nat.reduceEqDiff, if_true, if_false, md_rc, md_si_1, md_si_2, md_sa_1, md_sa_2, mg_kind, mr_kind, mw_kind, mg_one, mr_one, mw_one, mg_two, mr_two, mw_two, mg_variables, mp_variables, mg_inputs, mp_inputs, mg_inputOf, mr_inputOf, mw_inputOf, mg_nameSign, mr_nameSign, mw_nameSign, mg_nameSize, mr_nameSize, mw_nameSize, mg_label, mr_label, mw_label, mg_isContrary, mp_isContrary, mg_text, mr_text, mw_text, mg_textSize, mp_textSize, mg_at, mp_at, mg_token, mp_token, mg_tokenAt, mp_tokenAt, mg_tokenSize, mp_tokenSize, mg_scanned, mp_scanned, mg_fault, mp_fault, mg_faultAt, mp_faultAt, mg_place, mp_place, mg_open, mp_open, mg_level, mr_level, mw_level, mg_stage, mr_stage, mw_stage, mg_held, mr_held, mw_held, mg_signPlace, mr_signPlace, mw_signPlace, mg_value, mp_value, mg_row, mr_row, mw_row, mg_contrary, mr_contrary, mw_contrary, mg_firstRow, mr_firstRow, mw_firstRow, mg_firstContrary, mr_firstContrary, mw_firstContrary, mg_depthOf, mr_depthOf, mw_depthOf, mg_phase, mr_phase, mw_phase, mg_tried, mr_tried, mw_tried, mg_before, mr_before, mw_before, mg_old, mr_old, mw_old, mg_steps, mp_steps, mg_mostSteps, mp_mostSteps, mg_rounds, mp_rounds, mg_passes, mp_passes, mg_branches, mp_branches, mg_worth, mr_worth, mw_worth, xo_in, nI_clamp, a1, b1, nI_eq]
  unfold zi
  by_cases h : ol a = ol b <;> simp [h]
/-- the rules of AND, by the labels ol when the round began -/
def sp_and (ol : Nat → Nat) (E : sp_E) (x a b : Nat) : sp_E :=
  let E1 := if ol a = ol 0 then sp_j E x b else E
  let E2 := if ol b = ol 0 then sp_j E1 x a else E1
  let E3 := if ol a = ol 1 ∨ ol b = ol 1 ∨ ol a = ol (b ^^^ 1) then sp_j E2 x 1 else E2
  let E4 := if ol a = ol b then sp_j E3 x a else E3
  let E5 := if ol x = ol 0 then sp_j (sp_j E4 a 0) b 0 else E4
  let E6 := if ol x = ol (a ^^^ 1) then sp_j (sp_j E5 a 0) b 1 else E5
  if ol x = ol (b ^^^ 1) then sp_j (sp_j E6 b 0) a 1 else E6
theorem sp_if_bd {n : Nat} {c : Prop} [Decidable c] {E E2 : sp_E} (h1 : sp_bd n E) (h2 : sp_bd n E2) : sp_bd n (if c then E else E2) := by split <;> assumption
set_option maxHeartbeats 2000000 in
theorem c_andRules {n f x a b : Nat} (h1 : σ.1 3 = nI n) (h0 : 1 ≤ n) (hn : n ≤ 120) (hf : f < 6) {ol : Nat → Nat} (ho : ∀ l, l < 2 * n → σ.2 34 l = nI (ol l) ∧ ol l < 2 ^ 31) (hx : x < 2 * n) (ha : a < 2 * n) (hb : b < 2 * n) {E : sp_E} (hE : sp_bd n E) : ev_C X (d + 2) m_Md_andRules [.ref B, .int (nI f), .int (nI x), .int (nI a), .int (nI b)] (md_put B (md_wr σ n f E) g) Q ↔ Q none (md_put B (md_wr σ n f (sp_and ol E x a b)) g) := by
  show ev_R X (d + 2) m_Md_andRules 0 [some (.ref B), some (.int (nI f)), some (.int (nI x)), some (.int (nI a)), some (.int (nI b))] [] (md_put B (md_wr σ n f E) g) Q ↔ _
  have ha1 := xor1_lt ha
  have hb1 := xor1_lt hb
  have hi : ∀ (E : sp_E) (Q : Option Value → xo_G → Prop) (u v : Nat), u < 2 * n → v < 2 * n → (ev_C X (d + 1) m_Md_is [.ref B, .int (nI u), .int (nI v)] (md_put B (md_wr σ n f E) g) Q ↔ Q (some (.int (zi (ol u = ol v)))) (md_put B (md_wr σ n f E) g)) := fun E Q u v hu hv => c_is (fun l hl => by rw [md_wr_2 σ n f E (by decide) (by decide)]; exact ho l hl) hn hu hv
  have hi0 : ∀ (E : sp_E) (Q : Option Value → xo_G → Prop) (u : Nat), u < 2 * n → (ev_C X (d + 1) m_Md_is [.ref B, .int (nI u), .int 0] (md_put B (md_wr σ n f E) g) Q ↔ Q (some (.int (zi (ol u = ol 0)))) (md_put B (md_wr σ n f E) g)) := fun E Q u hu => hi E Q u 0 hu (by omega)
  have hi1 : ∀ (E : sp_E) (Q : Option Value → xo_G → Prop) (u : Nat), u < 2 * n → (ev_C X (d + 1) m_Md_is [.ref B, .int (nI u), .int 1] (md_put B (md_wr σ n f E) g) Q ↔ Q (some (.int (zi (ol u = ol 1)))) (md_put B (md_wr σ n f E) g)) := fun E Q u hu => hi E Q u 1 hu (by omega)
  have hj : ∀ (E : sp_E) (Q : Option Value → xo_G → Prop) (u v : Nat), sp_bd n E → u < 2 * n → v < 2 * n → (ev_C X (d + 1) m_Md_join2 [.ref B, .int (nI f), .int (nI u), .int (nI v)] (md_put B (md_wr σ n f E) g) Q ↔ Q none (md_put B (md_wr σ n f (sp_j E u v)) g)) := fun E Q u v hE hu hv => c_join2 h1 hn hf hE hu hv
  have hj0 : ∀ (E : sp_E) (Q : Option Value → xo_G → Prop) (u : Nat), sp_bd n E → u < 2 * n → (ev_C X (d + 1) m_Md_join2 [.ref B, .int (nI f), .int (nI u), .int 0] (md_put B (md_wr σ n f E) g) Q ↔ Q none (md_put B (md_wr σ n f (sp_j E u 0)) g)) := fun E Q u hE hu => hj E Q u 0 hE hu (by omega)
  have hj1 : ∀ (E : sp_E) (Q : Option Value → xo_G → Prop) (u : Nat), sp_bd n E → u < 2 * n → (ev_C X (d + 1) m_Md_join2 [.ref B, .int (nI f), .int (nI u), .int 1] (md_put B (md_wr σ n f E) g) Q ↔ Q none (md_put B (md_wr σ n f (sp_j E u 1)) g)) := fun E Q u hE hu => hj E Q u 1 hE hu (by omega)
  have s1 : ∀ E : sp_E, sp_bd n E → (ev_R X (d + 2) m_Md_andRules 0 [some (.ref B), some (.int (nI f)), some (.int (nI x)), some (.int (nI a)), some (.int (nI b))] [] (md_put B (md_wr σ n f E) g) Q ↔ ev_R X (d + 2) m_Md_andRules 17 [some (.ref B), some (.int (nI f)), some (.int (nI x)), some (.int (nI a)), some (.int (nI b))] [] (md_put B (md_wr σ n f (if ol a = ol 0 then sp_j E x b else E)) g) Q) := fun E hE => by
    have hb0 := sp_j_bd hE ha (by omega : 0 < 2 * n)
    have hb2 := sp_j_bd hE hb (by omega : 0 < 2 * n)
    simp (disch := first | exact ev_ok_i _ | exact ev_ok_r _ | exact ev_ok_n | omega | assumption) only [e_Md_andRules_0, e_Md_andRules_1, e_Md_andRules_2, e_Md_andRules_3, e_Md_andRules_6, e_Md_andRules_9, e_Md_andRules_10, e_Md_andRules_11, e_Md_andRules_12, e_Md_andRules_14, ev_rm_n, ev_rm_i, ev_rm_r, ev_rm_l, ev_ok_n, ev_ok_i, ev_ok_r, Option.toList_some, Option.toList_none, List.cons_append, List.nil_append, true_and, and_true, true_or, or_true, reduceIte, Nat.reduceEqDiff, if_true, if_false, md_rc, hi, hi0, hi1, hj, hj0, hj1, zi_0, nL_x1]
    by_cases c : ol a = ol 0 <;> simp [c]
  have s2 : ∀ E : sp_E, sp_bd n E → (ev_R X (d + 2) m_Md_andRules 17 [some (.ref B), some (.int (nI f)), some (.int (nI x)), some (.int (nI a)), some (.int (nI b))] [] (md_put B (md_wr σ n f E) g) Q ↔ ev_R X (d + 2) m_Md_andRules 34 [some (.ref B), some (.int (nI f)), some (.int (nI x)), some (.int (nI a)), some (.int (nI b))] [] (md_put B (md_wr σ n f (if ol b = ol 0 then sp_j E x a else E)) g) Q) := fun E hE => by
    have hb0 := sp_j_bd hE ha (by omega : 0 < 2 * n)
    have hb2 := sp_j_bd hE hb (by omega : 0 < 2 * n)
    simp (disch := first | exact ev_ok_i _ | exact ev_ok_r _ | exact ev_ok_n | omega | assumption) only [e_Md_andRules_17, e_Md_andRules_18, e_Md_andRules_20, e_Md_andRules_21, e_Md_andRules_24, e_Md_andRules_27, e_Md_andRules_28, e_Md_andRules_29, e_Md_andRules_30, e_Md_andRules_31, ev_rm_n, ev_rm_i, ev_rm_r, ev_rm_l, ev_ok_n, ev_ok_i, ev_ok_r, Option.toList_some, Option.toList_none, List.cons_append, List.nil_append, true_and, and_true, true_or, or_true, reduceIte, Nat.reduceEqDiff, if_true, if_false, md_rc, hi, hi0, hi1, hj, hj0, hj1, zi_0, nL_x1]
    by_cases c : ol b = ol 0 <;> simp [c]
  have s3 : ∀ E : sp_E, sp_bd n E → (ev_R X (d + 2) m_Md_andRules 34 [some (.ref B), some (.int (nI f)), some (.int (nI x)), some (.int (nI a)), some (.int (nI b))] [] (md_put B (md_wr σ n f E) g) Q ↔ ev_R X (d + 2) m_Md_andRules 72 [some (.ref B), some (.int (nI f)), some (.int (nI x)), some (.int (nI a)), some (.int (nI b))] [] (md_put B (md_wr σ n f (if ol a = ol 1 ∨ ol b = ol 1 ∨ ol a = ol (b ^^^ 1) then sp_j E x 1 else E)) g) Q) := fun E hE => by
    have hb0 := sp_j_bd hE ha (by omega : 0 < 2 * n)
    have hb2 := sp_j_bd hE hb (by omega : 0 < 2 * n)
    simp (disch := first | exact ev_ok_i _ | exact ev_ok_r _ | exact ev_ok_n | omega | assumption) only [e_Md_andRules_34, e_Md_andRules_35, e_Md_andRules_36, e_Md_andRules_37, e_Md_andRules_40, e_Md_andRules_43, e_Md_andRules_44, e_Md_andRules_46, e_Md_andRules_47, e_Md_andRules_50, e_Md_andRules_53, e_Md_andRules_54, e_Md_andRules_55, e_Md_andRules_57, e_Md_andRules_58, e_Md_andRules_59, e_Md_andRules_62, e_Md_andRules_65, e_Md_andRules_66, e_Md_andRules_67, e_Md_andRules_68, e_Md_andRules_69, ev_rm_n, ev_rm_i, ev_rm_r, ev_rm_l, ev_ok_n, ev_ok_i, ev_ok_r, Option.toList_some, Option.toList_none, List.cons_append, List.nil_append, true_and, and_true, true_or, or_true, reduceIte, Nat.reduceEqDiff, if_true, if_false, md_rc, hi, hi0, hi1, hj, hj0, hj1, zi_0, nL_x1]
    by_cases c1 : ol a = ol 1 <;> by_cases c2 : ol b = ol 1 <;> by_cases c3 : ol a = ol (b ^^^ 1) <;> simp [c1, c2, c3]
  have s4 : ∀ E : sp_E, sp_bd n E → (ev_R X (d + 2) m_Md_andRules 72 [some (.ref B), some (.int (nI f)), some (.int (nI x)), some (.int (nI a)), some (.int (nI b))] [] (md_put B (md_wr σ n f E) g) Q ↔ ev_R X (d + 2) m_Md_andRules 89 [some (.ref B), some (.int (nI f)), some (.int (nI x)), some (.int (nI a)), some (.int (nI b))] [] (md_put B (md_wr σ n f (if ol a = ol b then sp_j E x a else E)) g) Q) := fun E hE => by
    have hb0 := sp_j_bd hE ha (by omega : 0 < 2 * n)
    have hb2 := sp_j_bd hE hb (by omega : 0 < 2 * n)
    simp (disch := first | exact ev_ok_i _ | exact ev_ok_r _ | exact ev_ok_n | omega | assumption) only [e_Md_andRules_72, e_Md_andRules_73, e_Md_andRules_74, e_Md_andRules_76, e_Md_andRules_79, e_Md_andRules_82, e_Md_andRules_83, e_Md_andRules_84, e_Md_andRules_85, e_Md_andRules_86, ev_rm_n, ev_rm_i, ev_rm_r, ev_rm_l, ev_ok_n, ev_ok_i, ev_ok_r, Option.toList_some, Option.toList_none, List.cons_append, List.nil_append, true_and, and_true, true_or, or_true, reduceIte, Nat.reduceEqDiff, if_true, if_false, md_rc, hi, hi0, hi1, hj, hj0, hj1, zi_0, nL_x1]
    by_cases c : ol a = ol b <;> simp [c]
  have s5 : ∀ E : sp_E, sp_bd n E → (ev_R X (d + 2) m_Md_andRules 89 [some (.ref B), some (.int (nI f)), some (.int (nI x)), some (.int (nI a)), some (.int (nI b))] [] (md_put B (md_wr σ n f E) g) Q ↔ ev_R X (d + 2) m_Md_andRules 113 [some (.ref B), some (.int (nI f)), some (.int (nI x)), some (.int (nI a)), some (.int (nI b))] [] (md_put B (md_wr σ n f (if ol x = ol 0 then sp_j (sp_j E a 0) b 0 else E)) g) Q) := fun E hE => by
    have hb0 := sp_j_bd hE ha (by omega : 0 < 2 * n)
    have hb2 := sp_j_bd hE hb (by omega : 0 < 2 * n)
    simp (disch := first | exact ev_ok_i _ | exact ev_ok_r _ | exact ev_ok_n | omega | assumption) only [e_Md_andRules_89, e_Md_andRules_90, e_Md_andRules_91, e_Md_andRules_92, e_Md_andRules_95, e_Md_andRules_98, e_Md_andRules_99, e_Md_andRules_100, e_Md_andRules_101, e_Md_andRules_102, e_Md_andRules_105, e_Md_andRules_106, e_Md_andRules_107, e_Md_andRules_109, e_Md_andRules_110, ev_rm_n, ev_rm_i, ev_rm_r, ev_rm_l, ev_ok_n, ev_ok_i, ev_ok_r, Option.toList_some, Option.toList_none, List.cons_append, List.nil_append, true_and, and_true, true_or, or_true, reduceIte, Nat.reduceEqDiff, if_true, if_false, md_rc, hi, hi0, hi1, hj, hj0, hj1, zi_0, nL_x1]
    by_cases c : ol x = ol 0 <;> simp [c]
  have s6 : ∀ E : sp_E, sp_bd n E → (ev_R X (d + 2) m_Md_andRules 113 [some (.ref B), some (.int (nI f)), some (.int (nI x)), some (.int (nI a)), some (.int (nI b))] [] (md_put B (md_wr σ n f E) g) Q ↔ ev_R X (d + 2) m_Md_andRules 139 [some (.ref B), some (.int (nI f)), some (.int (nI x)), some (.int (nI a)), some (.int (nI b))] [] (md_put B (md_wr σ n f (if ol x = ol (a ^^^ 1) then sp_j (sp_j E a 0) b 1 else E)) g) Q) := fun E hE => by
    have hb0 := sp_j_bd hE ha (by omega : 0 < 2 * n)
    have hb2 := sp_j_bd hE hb (by omega : 0 < 2 * n)
    simp (disch := first | exact ev_ok_i _ | exact ev_ok_r _ | exact ev_ok_n | omega | assumption) only [e_Md_andRules_113, e_Md_andRules_114, e_Md_andRules_115, e_Md_andRules_116, e_Md_andRules_117, e_Md_andRules_118, e_Md_andRules_121, e_Md_andRules_124, e_Md_andRules_125, e_Md_andRules_126, e_Md_andRules_127, e_Md_andRules_128, e_Md_andRules_131, e_Md_andRules_132, e_Md_andRules_133, e_Md_andRules_135, e_Md_andRules_136, ev_rm_n, ev_rm_i, ev_rm_r, ev_rm_l, ev_ok_n, ev_ok_i, ev_ok_r, Option.toList_some, Option.toList_none, List.cons_append, List.nil_append, true_and, and_true, true_or, or_true, reduceIte, Nat.reduceEqDiff, if_true, if_false, md_rc, hi, hi0, hi1, hj, hj0, hj1, zi_0, nL_x1]
    by_cases c : ol x = ol (a ^^^ 1) <;> simp [c]
  have s7 : ∀ E : sp_E, sp_bd n E → (ev_R X (d + 2) m_Md_andRules 139 [some (.ref B), some (.int (nI f)), some (.int (nI x)), some (.int (nI a)), some (.int (nI b))] [] (md_put B (md_wr σ n f E) g) Q ↔ ev_R X (d + 2) m_Md_andRules 166 [some (.ref B), some (.int (nI f)), some (.int (nI x)), some (.int (nI a)), some (.int (nI b))] [] (md_put B (md_wr σ n f (if ol x = ol (b ^^^ 1) then sp_j (sp_j E b 0) a 1 else E)) g) Q) := fun E hE => by
    have hb0 := sp_j_bd hE ha (by omega : 0 < 2 * n)
    have hb2 := sp_j_bd hE hb (by omega : 0 < 2 * n)
    simp (disch := first | exact ev_ok_i _ | exact ev_ok_r _ | exact ev_ok_n | omega | assumption) only [e_Md_andRules_139, e_Md_andRules_140, e_Md_andRules_141, e_Md_andRules_143, e_Md_andRules_144, e_Md_andRules_145, e_Md_andRules_148, e_Md_andRules_151, e_Md_andRules_152, e_Md_andRules_153, e_Md_andRules_155, e_Md_andRules_156, e_Md_andRules_159, e_Md_andRules_160, e_Md_andRules_161, e_Md_andRules_162, e_Md_andRules_163, ev_rm_n, ev_rm_i, ev_rm_r, ev_rm_l, ev_ok_n, ev_ok_i, ev_ok_r, Option.toList_some, Option.toList_none, List.cons_append, List.nil_append, true_and, and_true, true_or, or_true, reduceIte, Nat.reduceEqDiff, if_true, if_false, md_rc, hi, hi0, hi1, hj, hj0, hj1, zi_0, nL_x1]
    by_cases c : ol x = ol (b ^^^ 1) <;> simp [c]
  have hj00 : ∀ {E : sp_E} {u v w z : Nat}, sp_bd n E → u < 2 * n → v < 2 * n → w < 2 * n → z < 2 * n → sp_bd n (sp_j (sp_j E u v) w z) := fun h hu hv hw hz => sp_j_bd (sp_j_bd h hu hv) hw hz
  have z0 : 0 < 2 * n := by omega
  have z1 : 1 < 2 * n := by omega
  have b1 : sp_bd n (if ol a = ol 0 then sp_j E x b else E) := sp_if_bd (sp_j_bd hE hx hb) hE
  rw [s1 E hE, s2 _ b1]
  have b2 := sp_if_bd (c := ol b = ol 0) (sp_j_bd b1 hx ha) b1
  rw [s3 _ b2]
  have b3 := sp_if_bd (c := ol a = ol 1 ∨ ol b = ol 1 ∨ ol a = ol (b ^^^ 1)) (sp_j_bd b2 hx z1) b2
  rw [s4 _ b3]
  have b4 := sp_if_bd (c := ol a = ol b) (sp_j_bd b3 hx ha) b3
  rw [s5 _ b4]
  have b5 := sp_if_bd (c := ol x = ol 0) (hj00 b4 ha z0 hb z0) b4
  rw [s6 _ b5]
  have b6 := sp_if_bd (c := ol x = ol (a ^^^ 1)) (hj00 b5 ha z0 hb z1) b5
  rw [s7 _ b6, e_Md_andRules_166]
  rfl
end M3
