/-! numbers; the reference's small methods -/
def zi (p : Prop) [Decidable p] : Int32 := if p then 1 else 0
theorem xo_in {v n : Nat} (h : v < n) (hn : n < 2 ^ 31) : xo_out (nI v) n = false := by
  unfold xo_out
  have h1 : ¬ nI v < 0 := nI_pos (by omega)
  rw [nI_clamp (by omega)]
  simp [h1]
  exact h
theorem nL_2 (a : Nat) : (2 : Int32) * nI a = nI (2 * a) := pk_mul 2 a
theorem nL_240 (a : Nat) : (240 : Int32) * nI a = nI (240 * a) := pk_mul 240 a
theorem nL_6 (a : Nat) : (6 : Int32) * nI a = nI (6 * a) := pk_mul 6 a
theorem nE_0 {a : Nat} (h : a < 2 ^ 31) : nI a = 0 ↔ a = 0 := nI_eq (b := 0) h (by decide)
theorem nE_1 {a : Nat} (h : a < 2 ^ 31) : nI a = 1 ↔ a = 1 := nI_eq (b := 1) h (by decide)
theorem nE_2 {a : Nat} (h : a < 2 ^ 31) : nI a = 2 ↔ a = 2 := nI_eq (b := 2) h (by decide)
theorem nE_3 {a : Nat} (h : a < 2 ^ 31) : nI a = 3 ↔ a = 3 := nI_eq (b := 3) h (by decide)
theorem nE_24 {a : Nat} (h : a < 2 ^ 31) : nI a = 24 ↔ a = 24 := nI_eq (b := 24) h (by decide)
theorem nE_40 {a : Nat} (h : a < 2 ^ 31) : nI a = 40 ↔ a = 40 := nI_eq (b := 40) h (by decide)
theorem nE_120 {a : Nat} (h : a < 2 ^ 31) : nI a = 120 ↔ a = 120 := nI_eq (b := 120) h (by decide)
theorem nL_x1 (a : Nat) : nI a ^^^ 1 = nI (a ^^^ 1) := by
  apply Int32.toBitVec_inj.mp
  show (nI a).toBitVec ^^^ (1 : Int32).toBitVec = (nI (a ^^^ 1)).toBitVec
  show BitVec.ofNat 32 a ^^^ BitVec.ofNat 32 1 = BitVec.ofNat 32 (a ^^^ 1)
  apply BitVec.eq_of_toNat_eq
  simp [BitVec.toNat_xor, BitVec.toNat_ofNat]
theorem upd_s {f : Nat → Int32} {k : Nat} {x : Int32} : upd f k x k = x := pk_us
section M1
variable {X : xo_X} {d B : Nat} {σ : md_S} {g : xo_G} {Q : Option Value → xo_G → Prop}
theorem c_isSmall (c : Int32) : ev_C X d m_Md_isSmall [.int c] g Q ↔ Q (some (.int (zi (97 ≤ c ∧ c ≤ 122)))) g := by
  show ev_R X d m_Md_isSmall 0 [some (.int c)] [] g Q ↔ _
  simp only [e_Md_isSmall_0, e_Md_isSmall_1, e_Md_isSmall_3, e_Md_isSmall_6, e_Md_isSmall_7, e_Md_isSmall_9, e_Md_isSmall_12, e_Md_isSmall_13, e_Md_isSmall_16, e_Md_isSmall_17, ev_rm_n, ev_rm_i, ev_rm_r, ev_rm_l, ev_ok_n, ev_ok_i, ev_ok_r, Option.toList_some, Option.toList_none, List.cons_append, List.nil_append, true_and, and_true, true_or, or_true, reduceIte]
  unfold zi
  by_cases h1 : c < 97 <;> by_cases h2 : 122 < c <;> simp [h1, h2, Int32.not_lt.mp, Int32.not_le.mpr, Int32.not_lt.symm]
/-- a new variable -/
def md_nv (σ : md_S) (v : Nat) (k a b : Int32) : md_S := md_si (md_sa (md_sa (md_sa (md_sa (md_sa σ 0 v k) 1 v a) 2 v b) 8 (2 * v) (nI (2 * v))) 8 (2 * v + 1) (nI (2 * v + 1))) 3 (nI (v + 1))
theorem c_newVariable {v : Nat} (hv : σ.1 3 = nI v) (hl : v < 120) (k a b : Int32) : ev_C X d m_Md_newVariable [.ref B, .int k, .int a, .int b] (md_put B σ g) Q ↔ Q (some (.int (nI v))) (md_put B (md_nv σ v k a b) g) := by
  show ev_R X d m_Md_newVariable 0 [some (.ref B), some (.int k), some (.int a), some (.int b), none] [] (md_put B σ g) Q ↔ _
  simp (disch := first | exact ev_ok_i _ | exact ev_ok_r _ | exact ev_ok_n | omega | assumption) only [e_Md_newVariable_0, e_Md_newVariable_1, e_Md_newVariable_4, e_Md_newVariable_6, e_Md_newVariable_7, e_Md_newVariable_10, e_Md_newVariable_12, e_Md_newVariable_13, e_Md_newVariable_14, e_Md_newVariable_15, e_Md_newVariable_18, e_Md_newVariable_20, e_Md_newVariable_21, e_Md_newVariable_22, e_Md_newVariable_23, e_Md_newVariable_26, e_Md_newVariable_28, e_Md_newVariable_29, e_Md_newVariable_30, e_Md_newVariable_31, e_Md_newVariable_34, e_Md_newVariable_35, e_Md_newVariable_37, e_Md_newVariable_38, e_Md_newVariable_39, e_Md_newVariable_41, e_Md_newVariable_42, e_Md_newVariable_43, e_Md_newVariable_44, e_Md_newVariable_47, e_Md_newVariable_48, e_Md_newVariable_50, e_Md_newVariable_51, e_Md_newVariable_52, e_Md_newVariable_53, e_Md_newVariable_54, e_Md_newVariable_56, e_Md_newVariable_57, e_Md_newVariable_58, e_Md_newVariable_59, e_Md_newVariable_60, e_Md_newVariable_61, e_Md_newVariable_62, e_Md_newVariable_65, e_Md_newVariable_66, e_Md_newVariable_67, e_Md_newVariable_70, e_Md_newVariable_72, ev_rm_n, ev_rm_i, ev_rm_r, ev_rm_l, ev_ok_n, ev_ok_i, ev_ok_r, Option.toList_some, Option.toList_none, List.cons_append, List.nil_append, true_and, and_true, true_or, or_true, reduceIte, md_rc, md_si_1, md_si_2, md_sa_1, md_sa_2, mg_kind, mr_kind, mw_kind, mg_one, mr_one, mw_one, mg_two, mr_two, mw_two, mg_variables, mp_variables, mg_inputs, mp_inputs, mg_inputOf, mr_inputOf, mw_inputOf, mg_nameSign, mr_nameSign, mw_nameSign, mg_nameSize, mr_nameSize, mw_nameSize, mg_label, mr_label, mw_label, mg_isContrary, mp_isContrary, mg_text, mr_text, mw_text, mg_textSize, mp_textSize, mg_at, mp_at, mg_token, mp_token, mg_tokenAt, mp_tokenAt, mg_tokenSize, mp_tokenSize, mg_scanned, mp_scanned, mg_fault, mp_fault, mg_faultAt, mp_faultAt, mg_place, mp_place, mg_open, mp_open, mg_level, mr_level, mw_level, mg_stage, mr_stage, mw_stage, mg_held, mr_held, mw_held, mg_signPlace, mr_signPlace, mw_signPlace, mg_value, mp_value, mg_row, mr_row, mw_row, mg_contrary, mr_contrary, mw_contrary, mg_firstRow, mr_firstRow, mw_firstRow, mg_firstContrary, mr_firstContrary, mw_firstContrary, mg_depthOf, mr_depthOf, mw_depthOf, mg_phase, mr_phase, mw_phase, mg_tried, mr_tried, mw_tried, mg_before, mr_before, mw_before, mg_old, mr_old, mw_old, mg_steps, mp_steps, mg_mostSteps, mp_mostSteps, mg_rounds, mp_rounds, mg_passes, mp_passes, mg_branches, mp_branches, mg_worth, mr_worth, mw_worth, hv, xo_in, nI_clamp, nL_2, nI_1, md_nv]
/-- the first place from v on, among m, where p holds -/
def sp_fd (p : Nat → Bool) : Nat → Nat → Option Nat
  | _, 0 => none
  | v, m + 1 => if p v then some v else sp_fd p (v + 1) m
def sp_mn (a b : Nat) : Nat := if a < b then a else b
def sp_mx (a b : Nat) : Nat := if a < b then b else a
/-- a gate looked up or made: its literal (none: no room), and the state -/
def md_gate (σ : md_S) (n : Nat) (kd o1 o2 : Nat → Nat) (k a b : Nat) : Int32 × md_S := match sp_fd (fun v => kd v == k && o1 v == sp_mn a b && o2 v == sp_mx a b) 1 (n - 1) with
  | some v => (nI (2 * v), σ)
  | none => if n = 120 then (-1, σ) else (nI (2 * n), md_nv σ n (nI k) (nI (sp_mn a b)) (nI (sp_mx a b)))
def md_ci (σ : md_S) (n : Nat) (kd o1 o2 : Nat → Nat) : Prop := σ.1 3 = nI n ∧ 1 ≤ n ∧ n ≤ 120 ∧ ∀ v, v < n → σ.2 0 v = nI (kd v) ∧ σ.2 1 v = nI (o1 v) ∧ σ.2 2 v = nI (o2 v) ∧ kd v < 2 ^ 31 ∧ o1 v < 2 ^ 31 ∧ o2 v < 2 ^ 31
theorem c_gateOf_loop {n k x y : Nat} {kd o1 o2 : Nat → Nat} (h : md_ci σ n kd o1 o2) (hk : k < 2 ^ 31) (hx : x < 2 ^ 31) (hy : y < 2 ^ 31) {l2 l3 : Option Value} (hl3 : ev_ok l3 = true) : ∀ (m v : Nat), v + m = n → 1 ≤ v → (ev_R X (d + 1) m_Md_gateOf 27 [some (.ref B), some (.int (nI k)), l2, l3, some (.int (nI x)), some (.int (nI y)), some (.int (nI v))] [] (md_put B σ g) Q ↔ match sp_fd (fun v => kd v == k && o1 v == x && o2 v == y) v m with
    | some v => Q (some (.int (nI (2 * v)))) (md_put B σ g)
    | none => if n = 120 then Q (some (.int (-1))) (md_put B σ g) else Q (some (.int (nI (2 * n)))) (md_put B (md_nv σ n (nI k) (nI x) (nI y)) g)) := by
  obtain ⟨h1, h2, h3, h4⟩ := h
  intro m
  induction m with
  | zero =>
    intro v hv hv1
    have e : v = n := by omega
    subst e
    simp (disch := first | exact ev_ok_i _ | exact ev_ok_r _ | exact ev_ok_n | omega | assumption) only [e_Md_gateOf_27, e_Md_gateOf_29, e_Md_gateOf_30, e_Md_gateOf_33, e_Md_gateOf_82, e_Md_gateOf_83, e_Md_gateOf_86, e_Md_gateOf_88, e_Md_gateOf_91, e_Md_gateOf_92, e_Md_gateOf_95, e_Md_gateOf_96, e_Md_gateOf_97, e_Md_gateOf_98, e_Md_gateOf_100, e_Md_gateOf_102, e_Md_gateOf_105, e_Md_gateOf_106, ev_rm_n, ev_rm_i, ev_rm_r, ev_rm_l, ev_ok_n, ev_ok_i, ev_ok_r, Option.toList_some, Option.toList_none, List.cons_append, List.nil_append, true_and, and_true, true_or, or_true, reduceIte, md_rc, md_si_1, md_si_2, md_sa_1, md_sa_2, mg_kind, mr_kind, mw_kind, mg_one, mr_one, mw_one, mg_two, mr_two, mw_two, mg_variables, mp_variables, mg_inputs, mp_inputs, mg_inputOf, mr_inputOf, mw_inputOf, mg_nameSign, mr_nameSign, mw_nameSign, mg_nameSize, mr_nameSize, mw_nameSize, mg_label, mr_label, mw_label, mg_isContrary, mp_isContrary, mg_text, mr_text, mw_text, mg_textSize, mp_textSize, mg_at, mp_at, mg_token, mp_token, mg_tokenAt, mp_tokenAt, mg_tokenSize, mp_tokenSize, mg_scanned, mp_scanned, mg_fault, mp_fault, mg_faultAt, mp_faultAt, mg_place, mp_place, mg_open, mp_open, mg_level, mr_level, mw_level, mg_stage, mr_stage, mw_stage, mg_held, mr_held, mw_held, mg_signPlace, mr_signPlace, mw_signPlace, mg_value, mp_value, mg_row, mr_row, mw_row, mg_contrary, mr_contrary, mw_contrary, mg_firstRow, mr_firstRow, mw_firstRow, mg_firstContrary, mr_firstContrary, mw_firstContrary, mg_depthOf, mr_depthOf, mw_depthOf, mg_phase, mr_phase, mw_phase, mg_tried, mr_tried, mw_tried, mg_before, mr_before, mw_before, mg_old, mr_old, mw_old, mg_steps, mp_steps, mg_mostSteps, mp_mostSteps, mg_rounds, mp_rounds, mg_passes, mp_passes, mg_branches, mp_branches, mg_worth, mr_worth, mw_worth, h1, nI_leI, nE_120, Nat.le_refl, sp_fd]
    by_cases hn : v = 120
    · simp only [hn, not_true_eq_false, if_false, if_true, ev_rm_n, ev_rm_i, ev_rm_r, ev_rm_l, ev_ok_n, ev_ok_i, ev_ok_r, Option.toList_some, Option.toList_none, List.cons_append, List.nil_append, true_and, and_true, true_or, or_true, reduceIte]
    · simp only [hn, not_false_eq_true, if_true, if_false]
      rw [c_newVariable h1 (by omega)]
      simp (disch := first | exact ev_ok_i _ | exact ev_ok_r _ | exact ev_ok_n | omega | assumption) only [e_Md_gateOf_105, e_Md_gateOf_106, ev_rm_n, ev_rm_i, ev_rm_r, ev_rm_l, ev_ok_n, ev_ok_i, ev_ok_r, Option.toList_some, Option.toList_none, List.cons_append, List.nil_append, true_and, and_true, true_or, or_true, reduceIte, nL_2]
  | succ m ih =>
    intro v hv hv1
    obtain ⟨q1, q2, q3, q4, q5, q6⟩ := h4 v (by omega)
    have hlt : ¬ n ≤ v := by omega
    have hih := ih (v + 1) (by omega) (by omega)
    simp (disch := first | exact ev_ok_i _ | exact ev_ok_r _ | exact ev_ok_n | omega | assumption) only [e_Md_gateOf_27, e_Md_gateOf_29, e_Md_gateOf_30, e_Md_gateOf_33, e_Md_gateOf_36, e_Md_gateOf_37, e_Md_gateOf_40, e_Md_gateOf_42, e_Md_gateOf_43, e_Md_gateOf_44, e_Md_gateOf_47, e_Md_gateOf_48, e_Md_gateOf_51, e_Md_gateOf_53, e_Md_gateOf_54, e_Md_gateOf_56, e_Md_gateOf_59, e_Md_gateOf_60, e_Md_gateOf_63, e_Md_gateOf_65, e_Md_gateOf_66, e_Md_gateOf_68, e_Md_gateOf_71, e_Md_gateOf_72, e_Md_gateOf_74, e_Md_gateOf_75, e_Md_gateOf_76, e_Md_gateOf_79, ev_rm_n, ev_rm_i, ev_rm_r, ev_rm_l, ev_ok_n, ev_ok_i, ev_ok_r, Option.toList_some, Option.toList_none, List.cons_append, List.nil_append, true_and, and_true, true_or, or_true, reduceIte, md_rc, md_si_1, md_si_2, md_sa_1, md_sa_2, mg_kind, mr_kind, mw_kind, mg_one, mr_one, mw_one, mg_two, mr_two, mw_two, mg_variables, mp_variables, mg_inputs, mp_inputs, mg_inputOf, mr_inputOf, mw_inputOf, mg_nameSign, mr_nameSign, mw_nameSign, mg_nameSize, mr_nameSize, mw_nameSize, mg_label, mr_label, mw_label, mg_isContrary, mp_isContrary, mg_text, mr_text, mw_text, mg_textSize, mp_textSize, mg_at, mp_at, mg_token, mp_token, mg_tokenAt, mp_tokenAt, mg_tokenSize, mp_tokenSize, mg_scanned, mp_scanned, mg_fault, mp_fault, mg_faultAt, mp_faultAt, mg_place, mp_place, mg_open, mp_open, mg_level, mr_level, mw_level, mg_stage, mr_stage, mw_stage, mg_held, mr_held, mw_held, mg_signPlace, mr_signPlace, mw_signPlace, mg_value, mp_value, mg_row, mr_row, mw_row, mg_contrary, mr_contrary, mw_contrary, mg_firstRow, mr_firstRow, mw_firstRow, mg_firstContrary, mr_firstContrary, mw_firstContrary, mg_depthOf, mr_depthOf, mw_depthOf, mg_phase, mr_phase, mw_phase, mg_tried, mr_tried, mw_tried, mg_before, mr_before, mw_before, mg_old, mr_old, mw_old, mg_steps, mp_steps, mg_mostSteps, mp_mostSteps, mg_rounds, mp_rounds, mg_passes, mp_passes, mg_branches, mp_branches, mg_worth, mr_worth, mw_worth, h1, nI_leI, hlt, xo_in, nI_clamp, q1, q2, q3, nI_eq, nL_2, nI_1, hih, sp_fd]
    by_cases a1 : kd v = k <;> by_cases a2 : o1 v = x <;> by_cases a3 : o2 v = y <;> simp [a1, a2, a3]
theorem c_gateOf {n k a b : Nat} {kd o1 o2 : Nat → Nat} (h : md_ci σ n kd o1 o2) (hk : k < 2 ^ 31) (ha : a < 2 ^ 31) (hb : b < 2 ^ 31) : ev_C X (d + 1) m_Md_gateOf [.ref B, .int (nI k), .int (nI a), .int (nI b)] (md_put B σ g) Q ↔ Q (some (.int (md_gate σ n kd o1 o2 k a b).1)) (md_put B (md_gate σ n kd o1 o2 k a b).2 g) := by
  show ev_R X (d + 1) m_Md_gateOf 0 [some (.ref B), some (.int (nI k)), some (.int (nI a)), some (.int (nI b)), none, none, none] [] (md_put B σ g) Q ↔ _
  have hloop := fun x y hx hy => c_gateOf_loop (X := X) (d := d) (B := B) (g := g) (Q := Q) (k := k) (x := x) (y := y) (l2 := some (.int (nI a))) (l3 := some (.int (nI b))) h hk hx hy rfl (n - 1) 1 (by have := h.2.1; omega) (Nat.le_refl 1)
  have e1 : (1 : Int32) = nI 1 := rfl
  unfold md_gate sp_mn sp_mx
  by_cases hab : a < b
  · have hba : ¬ b ≤ a := by omega
    simp (disch := first | exact ev_ok_i _ | exact ev_ok_r _ | exact ev_ok_n | omega | assumption) only [e_Md_gateOf_0, e_Md_gateOf_1, e_Md_gateOf_2, e_Md_gateOf_5, e_Md_gateOf_6, e_Md_gateOf_9, e_Md_gateOf_10, e_Md_gateOf_12, e_Md_gateOf_13, e_Md_gateOf_14, e_Md_gateOf_17, e_Md_gateOf_18, e_Md_gateOf_21, e_Md_gateOf_22, e_Md_gateOf_24, e_Md_gateOf_25, ev_rm_n, ev_rm_i, ev_rm_r, ev_rm_l, ev_ok_n, ev_ok_i, ev_ok_r, Option.toList_some, Option.toList_none, List.cons_append, List.nil_append, true_and, and_true, true_or, or_true, reduceIte, nI_leI, hba, hab]
    rw [e1, hloop a b ha hb]
    split
    · rfl
    · split <;> rfl
  · have hba : b ≤ a := by omega
    simp (disch := first | exact ev_ok_i _ | exact ev_ok_r _ | exact ev_ok_n | omega | assumption) only [e_Md_gateOf_0, e_Md_gateOf_1, e_Md_gateOf_2, e_Md_gateOf_5, e_Md_gateOf_6, e_Md_gateOf_9, e_Md_gateOf_10, e_Md_gateOf_12, e_Md_gateOf_13, e_Md_gateOf_14, e_Md_gateOf_17, e_Md_gateOf_18, e_Md_gateOf_21, e_Md_gateOf_22, e_Md_gateOf_24, e_Md_gateOf_25, ev_rm_n, ev_rm_i, ev_rm_r, ev_rm_l, ev_ok_n, ev_ok_i, ev_ok_r, Option.toList_some, Option.toList_none, List.cons_append, List.nil_append, true_and, and_true, true_or, or_true, reduceIte, nI_leI, hba, hab]
    rw [e1, hloop b a hb ha]
    split
    · rfl
    · split <;> rfl
end M1
