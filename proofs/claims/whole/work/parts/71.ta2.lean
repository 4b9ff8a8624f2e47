/-! THE CLASS's table: a bit, the least difference; value, model, alike -/
theorem sp_fd_at {P : Nat → Bool} : ∀ (m v r : Nat), v ≤ r → r < v + m → P r = true → (∀ j, v ≤ j → j < r → P j = false) → sp_fd P v m = some r := by
  intro m
  induction m with
  | zero => intro v r h1 h2; omega
  | succ m ih =>
    intro v r h1 h2 h3 h4
    unfold sp_fd
    by_cases e : v = r
    · subst e
      rw [if_pos h3]
    · rw [if_neg (by rw [h4 v (Nat.le_refl v) (by omega)]; decide)]
      exact ih (v + 1) r (by omega) (by omega) h3 (fun j a b => h4 j (by omega) b)
theorem sp_fd_no {P : Nat → Bool} : ∀ (m v : Nat), (∀ j, v ≤ j → j < v + m → P j = false) → sp_fd P v m = none := by
  intro m
  induction m with
  | zero => intro v _; rfl
  | succ m ih =>
    intro v h
    unfold sp_fd
    rw [if_neg (by rw [h v (Nat.le_refl v) (by omega)]; decide)]
    exact ih (v + 1) (fun j a b => h j (by omega) (by omega))
theorem cs_least {P : Nat → Bool} : ∀ m, (∃ j, j < m ∧ P j = true) → ∃ r, r < m ∧ P r = true ∧ ∀ j, j < r → P j = false := by
  intro m
  induction m with
  | zero => rintro ⟨j, h, -⟩; omega
  | succ m ih =>
    rintro ⟨j, h1, h2⟩
    by_cases c : ∃ j, j < m ∧ P j = true
    · obtain ⟨r, a, b, e⟩ := ih c
      exact ⟨r, by omega, b, e⟩
    · have hj : j = m := by
        by_cases z : j < m
        · exact absurd ⟨j, z, h2⟩ c
        · omega
      refine ⟨m, by omega, hj ▸ h2, fun k hk => ?_⟩
      cases hp : P k with
      | false => rfl
      | true => exact absurd ⟨k, hk, hp⟩ c
section TA2
variable {X : xo_X} {d B : Nat} {τ : cl_S} {g : xo_G} {Q : Option Value → xo_G → Prop} {c : sp_C} {w : sp_W}
theorem cs_n0 : ∀ t : Fin 32, (t.val = 0 ∨ ¬ nI (2 ^ t.val - 1) ≤ 0) := by decide
theorem cs_c2 : ∀ u : Fin 5, nI (2 ^ u.val - 1) ≤ 4 ↔ u.val ≤ 2 := by decide
theorem cs_c4 : ∀ u : Fin 9, nI (2 ^ u.val - 1) ≤ 16 ↔ u.val ≤ 4 := by decide
theorem cs_c8 : ∀ u : Fin 17, nI (2 ^ u.val - 1) ≤ 256 ↔ u.val ≤ 8 := by decide
theorem cs_c16 : ∀ u : Fin 32, nI (2 ^ u.val - 1) ≤ 65536 ↔ u.val ≤ 16 := by decide
theorem cs_s1 : ∀ u : Fin 3, 1 ≤ u.val → ((nI (2 ^ u.val - 1)).toUInt32 >>> ((1 : Int32).toUInt32 &&& Int32.toUInt32 31)).toInt32 = nI (u.val - 1) := by decide
theorem cs_s2 : ∀ u : Fin 5, 2 ≤ u.val → ((nI (2 ^ u.val - 1)).toUInt32 >>> ((2 : Int32).toUInt32 &&& Int32.toUInt32 31)).toInt32 = nI (2 ^ (u.val - 2) - 1) := by decide
theorem cs_s4 : ∀ u : Fin 9, 4 ≤ u.val → ((nI (2 ^ u.val - 1)).toUInt32 >>> ((4 : Int32).toUInt32 &&& Int32.toUInt32 31)).toInt32 = nI (2 ^ (u.val - 4) - 1) := by decide
theorem cs_s8 : ∀ u : Fin 17, 8 ≤ u.val → ((nI (2 ^ u.val - 1)).toUInt32 >>> ((8 : Int32).toUInt32 &&& Int32.toUInt32 31)).toInt32 = nI (2 ^ (u.val - 8) - 1) := by decide
theorem cs_s16 : ∀ u : Fin 32, 16 ≤ u.val → ((nI (2 ^ u.val - 1)).toUInt32 >>> ((16 : Int32).toUInt32 &&& Int32.toUInt32 31)).toInt32 = nI (2 ^ (u.val - 16) - 1) := by decide
theorem c_inNtz {i : Int32} {t : Nat} (ht : t < 32) (h : (i ^^^ (-1)) &&& (i - 1) = nI (2 ^ t - 1)) : ev_C X d m_In_numberOfTrailingZeros [.int i] g Q ↔ Q (some (.int (nI t))) g := by
  show ev_R X d m_In_numberOfTrailingZeros 0 [some (.int i), none] [] g Q ↔ _
  simp (disch := first | exact ev_ok_i _ | exact ev_ok_r _ | exact ev_ok_n | omega | assumption | decide) only [e_In_numberOfTrailingZeros_0, e_In_numberOfTrailingZeros_1, e_In_numberOfTrailingZeros_2, e_In_numberOfTrailingZeros_3, e_In_numberOfTrailingZeros_4, e_In_numberOfTrailingZeros_5, e_In_numberOfTrailingZeros_6, e_In_numberOfTrailingZeros_7, ev_rm_n, ev_rm_i, ev_rm_r, ev_rm_l, ev_ok_n, ev_ok_i, ev_ok_r, Option.toList_some, Option.toList_none, List.cons_append, List.nil_append, true_and, and_true, true_or, or_true, reduceIte, Nat.reduceEqDiff, if_true, if_false, h]
  by_cases h0 : t = 0
  · subst h0
    have z : ¬ (0 : Int32) < nI (2 ^ 0 - 1) := by decide
    have z2 : nI (2 ^ 0 - 1) &&& 32 = nI 0 := by decide
    simp (disch := first | exact ev_ok_i _ | exact ev_ok_r _ | exact ev_ok_n | omega | assumption | decide) only [e_In_numberOfTrailingZeros_8, e_In_numberOfTrailingZeros_9, e_In_numberOfTrailingZeros_12, e_In_numberOfTrailingZeros_13, e_In_numberOfTrailingZeros_15, e_In_numberOfTrailingZeros_16, ev_rm_n, ev_rm_i, ev_rm_r, ev_rm_l, ev_ok_n, ev_ok_i, ev_ok_r, Option.toList_some, Option.toList_none, List.cons_append, List.nil_append, true_and, and_true, true_or, or_true, reduceIte, Nat.reduceEqDiff, if_true, if_false, z, if_false, z2]
  · have z : (0 : Int32) < nI (2 ^ t - 1) := Int32.not_le.mp ((cs_n0 ⟨t, ht⟩).resolve_left h0)
    have e74 : ∀ u n, 1 ≤ u → u ≤ 2 → n + u = t + 1 → (ev_R X d m_In_numberOfTrailingZeros 74 [some (.int (nI (2 ^ u - 1))), some (.int (nI n))] [] g Q ↔ Q (some (.int (nI t))) g) := fun u n h1 h2 h3 => by
      have s := cs_s1 ⟨u, by omega⟩ h1
      dsimp only at s
      simp (disch := first | exact ev_ok_i _ | exact ev_ok_r _ | exact ev_ok_n | omega | assumption | decide) only [e_In_numberOfTrailingZeros_74, e_In_numberOfTrailingZeros_75, e_In_numberOfTrailingZeros_76, e_In_numberOfTrailingZeros_77, e_In_numberOfTrailingZeros_78, e_In_numberOfTrailingZeros_79, ev_rm_n, ev_rm_i, ev_rm_r, ev_rm_l, ev_ok_n, ev_ok_i, ev_ok_r, Option.toList_some, Option.toList_none, List.cons_append, List.nil_append, true_and, and_true, true_or, or_true, reduceIte, Nat.reduceEqDiff, if_true, if_false, s, nI_add]
      rw [show n + (u - 1) = t by omega]
    have e62 : ∀ u n, 1 ≤ u → u ≤ 4 → n + u = t + 1 → (ev_R X d m_In_numberOfTrailingZeros 62 [some (.int (nI (2 ^ u - 1))), some (.int (nI n))] [] g Q ↔ Q (some (.int (nI t))) g) := fun u n h1 h2 h3 => by
      have c := cs_c2 ⟨u, by omega⟩
      dsimp only at c
      simp (disch := first | exact ev_ok_i _ | exact ev_ok_r _ | exact ev_ok_n | omega | assumption | decide) only [e_In_numberOfTrailingZeros_62, e_In_numberOfTrailingZeros_63, e_In_numberOfTrailingZeros_64, ev_rm_n, ev_rm_i, ev_rm_r, ev_rm_l, ev_ok_n, ev_ok_i, ev_ok_r, Option.toList_some, Option.toList_none, List.cons_append, List.nil_append, true_and, and_true, true_or, or_true, reduceIte, Nat.reduceEqDiff, if_true, if_false, c]
      by_cases hu : u ≤ 2
      · rw [if_pos hu]; exact e74 u n h1 hu h3
      · have s := cs_s2 ⟨u, by omega⟩ (by show 2 ≤ u; omega)
        dsimp only at s
        have a : nI n + 2 = nI (n + 2) := nI_add n 2
        rw [if_neg hu]
        simp (disch := first | exact ev_ok_i _ | exact ev_ok_r _ | exact ev_ok_n | omega | assumption | decide) only [e_In_numberOfTrailingZeros_67, e_In_numberOfTrailingZeros_70, e_In_numberOfTrailingZeros_71, e_In_numberOfTrailingZeros_72, e_In_numberOfTrailingZeros_73, ev_rm_n, ev_rm_i, ev_rm_r, ev_rm_l, ev_ok_n, ev_ok_i, ev_ok_r, Option.toList_some, Option.toList_none, List.cons_append, List.nil_append, true_and, and_true, true_or, or_true, reduceIte, Nat.reduceEqDiff, if_true, if_false, s, a]
        exact e74 (u - 2) (n + 2) (by omega) (by omega) (by omega)
    have e49 : ∀ u n, 1 ≤ u → u ≤ 8 → n + u = t + 1 → (ev_R X d m_In_numberOfTrailingZeros 49 [some (.int (nI (2 ^ u - 1))), some (.int (nI n))] [] g Q ↔ Q (some (.int (nI t))) g) := fun u n h1 h2 h3 => by
      have c := cs_c4 ⟨u, by omega⟩
      dsimp only at c
      simp (disch := first | exact ev_ok_i _ | exact ev_ok_r _ | exact ev_ok_n | omega | assumption | decide) only [e_In_numberOfTrailingZeros_49, e_In_numberOfTrailingZeros_50, e_In_numberOfTrailingZeros_52, ev_rm_n, ev_rm_i, ev_rm_r, ev_rm_l, ev_ok_n, ev_ok_i, ev_ok_r, Option.toList_some, Option.toList_none, List.cons_append, List.nil_append, true_and, and_true, true_or, or_true, reduceIte, Nat.reduceEqDiff, if_true, if_false, c]
      by_cases hu : u ≤ 4
      · rw [if_pos hu]; exact e62 u n h1 hu h3
      · have s := cs_s4 ⟨u, by omega⟩ (by show 4 ≤ u; omega)
        dsimp only at s
        have a : nI n + 4 = nI (n + 4) := nI_add n 4
        rw [if_neg hu]
        simp (disch := first | exact ev_ok_i _ | exact ev_ok_r _ | exact ev_ok_n | omega | assumption | decide) only [e_In_numberOfTrailingZeros_55, e_In_numberOfTrailingZeros_58, e_In_numberOfTrailingZeros_59, e_In_numberOfTrailingZeros_60, e_In_numberOfTrailingZeros_61, ev_rm_n, ev_rm_i, ev_rm_r, ev_rm_l, ev_ok_n, ev_ok_i, ev_ok_r, Option.toList_some, Option.toList_none, List.cons_append, List.nil_append, true_and, and_true, true_or, or_true, reduceIte, Nat.reduceEqDiff, if_true, if_false, s, a]
        exact e62 (u - 4) (n + 4) (by omega) (by omega) (by omega)
    have e34 : ∀ u n, 1 ≤ u → u ≤ 16 → n + u = t + 1 → (ev_R X d m_In_numberOfTrailingZeros 34 [some (.int (nI (2 ^ u - 1))), some (.int (nI n))] [] g Q ↔ Q (some (.int (nI t))) g) := fun u n h1 h2 h3 => by
      have c := cs_c8 ⟨u, by omega⟩
      dsimp only at c
      simp (disch := first | exact ev_ok_i _ | exact ev_ok_r _ | exact ev_ok_n | omega | assumption | decide) only [e_In_numberOfTrailingZeros_34, e_In_numberOfTrailingZeros_35, e_In_numberOfTrailingZeros_38, ev_rm_n, ev_rm_i, ev_rm_r, ev_rm_l, ev_ok_n, ev_ok_i, ev_ok_r, Option.toList_some, Option.toList_none, List.cons_append, List.nil_append, true_and, and_true, true_or, or_true, reduceIte, Nat.reduceEqDiff, if_true, if_false, c]
      by_cases hu : u ≤ 8
      · rw [if_pos hu]; exact e49 u n h1 hu h3
      · have s := cs_s8 ⟨u, by omega⟩ (by show 8 ≤ u; omega)
        dsimp only at s
        have a : nI n + 8 = nI (n + 8) := nI_add n 8
        rw [if_neg hu]
        simp (disch := first | exact ev_ok_i _ | exact ev_ok_r _ | exact ev_ok_n | omega | assumption | decide) only [e_In_numberOfTrailingZeros_41, e_In_numberOfTrailingZeros_44, e_In_numberOfTrailingZeros_45, e_In_numberOfTrailingZeros_47, e_In_numberOfTrailingZeros_48, ev_rm_n, ev_rm_i, ev_rm_r, ev_rm_l, ev_ok_n, ev_ok_i, ev_ok_r, Option.toList_some, Option.toList_none, List.cons_append, List.nil_append, true_and, and_true, true_or, or_true, reduceIte, Nat.reduceEqDiff, if_true, if_false, s, a]
        exact e49 (u - 8) (n + 8) (by omega) (by omega) (by omega)
    have c := cs_c16 ⟨t, ht⟩
    dsimp only at c
    simp (disch := first | exact ev_ok_i _ | exact ev_ok_r _ | exact ev_ok_n | omega | assumption | decide) only [e_In_numberOfTrailingZeros_8, e_In_numberOfTrailingZeros_9, e_In_numberOfTrailingZeros_17, e_In_numberOfTrailingZeros_18, e_In_numberOfTrailingZeros_19, e_In_numberOfTrailingZeros_20, e_In_numberOfTrailingZeros_23, ev_rm_n, ev_rm_i, ev_rm_r, ev_rm_l, ev_ok_n, ev_ok_i, ev_ok_r, Option.toList_some, Option.toList_none, List.cons_append, List.nil_append, true_and, and_true, true_or, or_true, reduceIte, Nat.reduceEqDiff, if_true, if_false, z, if_true, c]
    by_cases hu : t ≤ 16
    · rw [if_pos hu]; exact e34 t 1 (by omega) hu (by omega)
    · have s := cs_s16 ⟨t, ht⟩ (by show 16 ≤ t; omega)
      dsimp only at s
      have a : (1 : Int32) + 16 = nI 17 := by decide
      rw [if_neg hu]
      simp (disch := first | exact ev_ok_i _ | exact ev_ok_r _ | exact ev_ok_n | omega | assumption | decide) only [e_In_numberOfTrailingZeros_26, e_In_numberOfTrailingZeros_29, e_In_numberOfTrailingZeros_30, e_In_numberOfTrailingZeros_32, e_In_numberOfTrailingZeros_33, ev_rm_n, ev_rm_i, ev_rm_r, ev_rm_l, ev_ok_n, ev_ok_i, ev_ok_r, Option.toList_some, Option.toList_none, List.cons_append, List.nil_append, true_and, and_true, true_or, or_true, reduceIte, Nat.reduceEqDiff, if_true, if_false, s, a]
      exact e34 (t - 16) 17 (by omega) (by omega) (by omega)
theorem cs_i0 {x : Int32} : x = 0 ↔ ∀ j, j < 32 → x.toBitVec.getLsbD j = false := by
  constructor
  · intro h j hj; rw [h]; show (BitVec.ofNat 32 0).getLsbD j = false; simp
  · intro h
    apply Int32.toBitVec_inj.mp
    apply BitVec.eq_of_getLsbD_eq
    intro j hj
    rw [h j hj]
    show false = (BitVec.ofNat 32 0).getLsbD j
    simp
theorem c_loNtz {x : Int64} {t : Nat} (ht : t < 64) (hb : cs_wb x t = true) (hl : ∀ j, j < t → cs_wb x j = false) : ev_C X (d + 1) m_Lo_numberOfTrailingZeros [.long x] g Q ↔ Q (some (.int (nI t))) g := by
  show ev_R X (d + 1) m_Lo_numberOfTrailingZeros 0 [some (.long x), none, none] [] g Q ↔ _
  simp (disch := first | exact ev_ok_i _ | exact ev_ok_r _ | exact ev_ok_n | omega | assumption | decide) only [e_Lo_numberOfTrailingZeros_0, e_Lo_numberOfTrailingZeros_1, e_Lo_numberOfTrailingZeros_2, e_Lo_numberOfTrailingZeros_3, e_Lo_numberOfTrailingZeros_4, ev_rm_n, ev_rm_i, ev_rm_r, ev_rm_l, ev_ok_n, ev_ok_i, ev_ok_r, Option.toList_some, Option.toList_none, List.cons_append, List.nil_append, true_and, and_true, true_or, or_true, reduceIte, Nat.reduceEqDiff, if_true, if_false]
  by_cases c : t < 32
  · have nz : ¬ x.toInt32 = 0 := fun z => by
      have := cs_i0.mp z t c
      rw [cs_wb_lo x c, hb] at this
      cases this
    have h := cs_nti c (by rw [cs_wb_lo x c]; exact hb) (fun j hj => by rw [cs_wb_lo x (by omega)]; exact hl j hj)
    have iz : ∀ (K : Option Value → xo_G → Prop), ev_C X d m_In_numberOfTrailingZeros [.int x.toInt32] g K ↔ K (some (.int (nI t))) g := fun K => c_inNtz c h
    simp (disch := first | exact ev_ok_i _ | exact ev_ok_r _ | exact ev_ok_n | omega | assumption | decide) only [nz, not_false_eq_true, if_true, e_Lo_numberOfTrailingZeros_21, e_Lo_numberOfTrailingZeros_22, e_Lo_numberOfTrailingZeros_25, ev_rm_n, ev_rm_i, ev_rm_r, ev_rm_l, ev_ok_n, ev_ok_i, ev_ok_r, Option.toList_some, Option.toList_none, List.cons_append, List.nil_append, true_and, and_true, true_or, or_true, reduceIte, Nat.reduceEqDiff, if_true, if_false, iz]
  · have z : x.toInt32 = 0 := cs_i0.mpr (fun j hj => by rw [cs_wb_lo x hj]; exact hl j (by omega))
    have ha : ((32 : Int32).toInt64.toUInt64 &&& Int64.toUInt64 63).toNat % 64 = 32 := by decide
    have h := cs_nti (i := ((x.toUInt64 >>> ((32 : Int32).toInt64.toUInt64 &&& Int64.toUInt64 63)).toInt64).toInt32) (t := t - 32) (by omega) (by rw [cs_wb_sh x _ 32 ha (by omega), show 32 + (t - 32) = t by omega]; exact hb) (fun j hj => by rw [cs_wb_sh x _ 32 ha (by omega)]; exact hl _ (by omega))
    have iz : ∀ (K : Option Value → xo_G → Prop), ev_C X d m_In_numberOfTrailingZeros [.int ((x.toUInt64 >>> ((32 : Int32).toInt64.toUInt64 &&& Int64.toUInt64 63)).toInt64).toInt32] g K ↔ K (some (.int (nI (t - 32)))) g := fun K => c_inNtz (by omega) h
    have a : (32 : Int32) + nI (t - 32) = nI t := by
      rw [show (32 : Int32) = nI 32 from rfl, nI_add]
      congr 1
      omega
    simp (disch := first | exact ev_ok_i _ | exact ev_ok_r _ | exact ev_ok_n | omega | assumption | decide) only [z, not_true_eq_false, if_false, e_Lo_numberOfTrailingZeros_7, e_Lo_numberOfTrailingZeros_9, e_Lo_numberOfTrailingZeros_10, e_Lo_numberOfTrailingZeros_12, e_Lo_numberOfTrailingZeros_13, e_Lo_numberOfTrailingZeros_14, e_Lo_numberOfTrailingZeros_17, e_Lo_numberOfTrailingZeros_18, e_Lo_numberOfTrailingZeros_25, ev_rm_n, ev_rm_i, ev_rm_r, ev_rm_l, ev_ok_n, ev_ok_i, ev_ok_r, Option.toList_some, Option.toList_none, List.cons_append, List.nil_append, true_and, and_true, true_or, or_true, reduceIte, Nat.reduceEqDiff, if_true, if_false, iz, a]
theorem cs_ah : ∀ k : Fin 64, ((nI k.val).toInt64.toUInt64 &&& Int64.toUInt64 63).toNat % 64 = k.val := by decide
theorem c_taBit {l n : Nat} (hX : cl_WX X B g) (hc : cl_cR τ c) (hok : sp_cok c) (hl : l < 2 * cN c) (hn : n < 2 ^ 31) (hQ : ∀ f, Q (some (.int (sp_zb (sp_vl c n l)))) (cl_put B (τ.1, f) g)) : ev_C X (d + 3) m_Ta_bit [.ref (B + 61), .int (nI l), .int (nI n)] (cl_put B τ g) Q := by
  show ev_R X (d + 3) m_Ta_bit 0 [some (.ref (B + 61)), some (.int (nI l)), some (.int (nI n))] [] (cl_put B τ g) Q
  have hN := hok.1.2.1
  have u6 : ((nI n).toUInt32 >>> ((6 : Int32).toUInt32 &&& Int32.toUInt32 31)).toInt32 = nI (n / 2 ^ 6) := cs_usr (k := 6) hn (by decide)
  have a63 : nI n &&& 63 = nI (n % 2 ^ 6) := pk_andN (by omega) 6 (by decide)
  simp (disch := first | exact ev_ok_i _ | exact ev_ok_r _ | exact ev_ok_n | omega | assumption | decide) only [e_Ta_bit_0, e_Ta_bit_1, e_Ta_bit_2, e_Ta_bit_4, e_Ta_bit_5, ev_rm_n, ev_rm_i, ev_rm_r, ev_rm_l, ev_ok_n, ev_ok_i, ev_ok_r, Option.toList_some, Option.toList_none, List.cons_append, List.nil_append, true_and, and_true, true_or, or_true, reduceIte, Nat.reduceEqDiff, if_true, if_false, cg_Dp_rc, cg_Dp_text, cg_Dp_circuit, cg_Dp_reader, cg_Dp_current, cg_Dp_working, cg_Dp_saturator, cg_Dp_table, cg_Te_rc, cg_Te_bytes, cg_Te_length, cp_Te_length, cg_Ci_rc, cg_Ci_kinds, cg_Ci_firsts, cg_Ci_seconds, cg_Ci_inputVariables, cg_Ci_names, cg_Ci_nameLengths, cg_Ci_size, cp_Ci_size, cg_Ci_inputs, cp_Ci_inputs, cg_Re_rc, cg_Re_text, cg_Re_circuit, cg_Re_token, cp_Re_token, cg_Re_start, cp_Re_start, cg_Re_next, cp_Re_next, cg_Re_open, cp_Re_open, cg_Re_fault, cp_Re_fault, cg_Re_faultPlace, cp_Re_faultPlace, cg_Sa_rc, cg_Sa_circuit, cg_Sa_before, cg_Sa_trueBranches, cg_Sa_falseBranches, cg_Sa_tallies, cg_Sa_mostSteps, cp_Sa_mostSteps, cg_Sa_spent, cp_Sa_spent, cg_Ta_rc, cg_Ta_circuit, cg_Ta_words, cr_kinds, cw_kinds, cr_firsts, cw_firsts, cr_seconds, cw_seconds, cr_inputVariables, cw_inputVariables, cr_nameLengths, cw_nameLengths, cr_tallies, cw_tallies, cr_bytes, cw_bytes, cr_words, cw_words, cl_tallies, cr_names, cr_trueB, cr_falseB, cr_name, cw_name, cq_rc, cq_st, cq_size, cq_classes, cq_contradiction, cqp_size, cqp_classes, cqp_contradiction, cq_rd, cq_wr, cq_copy, cl_s_1, cl_s_2, cl_ar_1, cl_ar_2, cl_w_1, cl_w_2, u6]
  refine c_fill (d := d) hX hc hok (by omega) (fun f hf => ?_)
  have hlt : l < 240 := by omega
  simp (disch := first | exact ev_ok_i _ | exact ev_ok_r _ | exact ev_ok_n | omega | assumption | decide) only [e_Ta_bit_8, e_Ta_bit_9, e_Ta_bit_10, e_Ta_bit_13, e_Ta_bit_14, e_Ta_bit_16, e_Ta_bit_17, e_Ta_bit_18, e_Ta_bit_19, e_Ta_bit_20, e_Ta_bit_21, ev_rm_n, ev_rm_i, ev_rm_r, ev_rm_l, ev_ok_n, ev_ok_i, ev_ok_r, Option.toList_some, Option.toList_none, List.cons_append, List.nil_append, true_and, and_true, true_or, or_true, reduceIte, Nat.reduceEqDiff, if_true, if_false, cg_Dp_rc, cg_Dp_text, cg_Dp_circuit, cg_Dp_reader, cg_Dp_current, cg_Dp_working, cg_Dp_saturator, cg_Dp_table, cg_Te_rc, cg_Te_bytes, cg_Te_length, cp_Te_length, cg_Ci_rc, cg_Ci_kinds, cg_Ci_firsts, cg_Ci_seconds, cg_Ci_inputVariables, cg_Ci_names, cg_Ci_nameLengths, cg_Ci_size, cp_Ci_size, cg_Ci_inputs, cp_Ci_inputs, cg_Re_rc, cg_Re_text, cg_Re_circuit, cg_Re_token, cp_Re_token, cg_Re_start, cp_Re_start, cg_Re_next, cp_Re_next, cg_Re_open, cp_Re_open, cg_Re_fault, cp_Re_fault, cg_Re_faultPlace, cp_Re_faultPlace, cg_Sa_rc, cg_Sa_circuit, cg_Sa_before, cg_Sa_trueBranches, cg_Sa_falseBranches, cg_Sa_tallies, cg_Sa_mostSteps, cp_Sa_mostSteps, cg_Sa_spent, cp_Sa_spent, cg_Ta_rc, cg_Ta_circuit, cg_Ta_words, cr_kinds, cw_kinds, cr_firsts, cw_firsts, cr_seconds, cw_seconds, cr_inputVariables, cw_inputVariables, cr_nameLengths, cw_nameLengths, cr_tallies, cw_tallies, cr_bytes, cw_bytes, cr_words, cw_words, cl_tallies, cr_names, cr_trueB, cr_falseB, cr_name, cw_name, cq_rc, cq_st, cq_size, cq_classes, cq_contradiction, cqp_size, cqp_classes, cqp_contradiction, cq_rd, cq_wr, cq_copy, cl_s_1, cl_s_2, cl_ar_1, cl_ar_2, cl_w_1, cl_w_2, c_taWord, a63, cs_wb_a1]
  have h := cs_wd_ok hok hf (Nat.le_refl _) hl (n % 2 ^ 6) (Nat.mod_lt _ (by decide))
  have ha := cs_ah ⟨n % 2 ^ 6, Nat.mod_lt _ (by decide)⟩
  rw [cs_wb_sh _ _ (n % 2 ^ 6) ha (by decide : 0 < 32), Nat.add_zero, h, show 64 * (n / 2 ^ 6) + n % 2 ^ 6 = n by omega]
  have hq := hQ f
  unfold sp_zb at hq
  exact hq
/-- the least difference of two literals -/
theorem c_taLD_loop {p q : Nat} (hX : cl_WX X B g) (hok : sp_cok c) (hp : p < 2 * cN c) (hq : q < 2 * cN c) (hI : cI c ≤ 14) : ∀ (m k : Nat) (τ : cl_S) (l5 : Option Value), k + m = 2 ^ (cI c - 6) → cl_cR τ c → (∀ n, n < 64 * k → (sp_vl c n p != sp_vl c n q) = false) → (∀ f, Q (some (.int (match sp_fd (fun n => sp_vl c n p != sp_vl c n q) 0 (2 ^ cI c) with | some r => nI r | none => -7))) (cl_put B (τ.1, f) g)) → ev_R X (d + 3) m_Ta_leastDifference 20 [some (.ref (B + 61)), some (.int (nI p)), some (.int (nI q)), some (.int (nI (2 ^ (cI c - 6)))), some (.int (nI k)), l5, none] [] (cl_put B τ g) Q := by
  have hN := hok.1.2.1
  have hpw : 2 ^ (cI c - 6) ≤ 2 ^ 8 := Nat.pow_le_pow_right (by decide) (by omega)
  have modp : ∀ l, l < 2 * cN c → ∀ n, sp_vl c n l = sp_vl c (n % 2 ^ cI c) l := fun l hl n => by
    have := sp_vl_mod hok n (l / 2) (by omega)
    rcases Nat.mod_two_eq_zero_or_one l with z | z
    · have e : 2 * (l / 2) = l := by omega
      rw [e] at this
      exact this
    · have e : l = 2 * (l / 2) + 1 := by omega
      rw [e, sp_vl_not hok (by omega), sp_vl_not hok (by omega), this]
  have cover : 2 ^ cI c ≤ 64 * 2 ^ (cI c - 6) := by
    by_cases h6 : 6 ≤ cI c
    · have : 2 ^ cI c = 2 ^ 6 * 2 ^ (cI c - 6) := by rw [← Nat.pow_add]; congr 1; omega
      omega
    · have h1 : 2 ^ cI c ≤ 2 ^ 6 := Nat.pow_le_pow_right (by decide) (by omega)
      have h2 : 1 ≤ 2 ^ (cI c - 6) := Nat.one_le_two_pow
      omega
  intro m
  induction m with
  | zero =>
    intro k τ l5 hk hc hall hQ
    have e : k = 2 ^ (cI c - 6) := by omega
    have hno := sp_fd_no (P := fun n => sp_vl c n p != sp_vl c n q) (2 ^ cI c) 0 (fun j _ hj => hall j (by rw [e]; omega))
    rw [hno] at hQ
    simp (disch := first | exact ev_ok_i _ | exact ev_ok_r _ | exact ev_ok_n | omega | assumption | decide) only [e_Ta_leastDifference_20, e_Ta_leastDifference_22, e_Ta_leastDifference_23, e_Ta_leastDifference_70, e_Ta_leastDifference_72, ev_rm_n, ev_rm_i, ev_rm_r, ev_rm_l, ev_ok_n, ev_ok_i, ev_ok_r, Option.toList_some, Option.toList_none, List.cons_append, List.nil_append, true_and, and_true, true_or, or_true, reduceIte, Nat.reduceEqDiff, if_true, if_false, nI_leI, show 2 ^ (cI c - 6) ≤ k by omega]
    exact hQ τ.2
  | succ m ih =>
    intro k τ l5 hk hc hall hQ
    have hlt : ¬ 2 ^ (cI c - 6) ≤ k := by omega
    simp (disch := first | exact ev_ok_i _ | exact ev_ok_r _ | exact ev_ok_n | omega | assumption | decide) only [e_Ta_leastDifference_20, e_Ta_leastDifference_22, e_Ta_leastDifference_23, e_Ta_leastDifference_26, e_Ta_leastDifference_27, e_Ta_leastDifference_29, ev_rm_n, ev_rm_i, ev_rm_r, ev_rm_l, ev_ok_n, ev_ok_i, ev_ok_r, Option.toList_some, Option.toList_none, List.cons_append, List.nil_append, true_and, and_true, true_or, or_true, reduceIte, Nat.reduceEqDiff, if_true, if_false, cg_Dp_rc, cg_Dp_text, cg_Dp_circuit, cg_Dp_reader, cg_Dp_current, cg_Dp_working, cg_Dp_saturator, cg_Dp_table, cg_Te_rc, cg_Te_bytes, cg_Te_length, cp_Te_length, cg_Ci_rc, cg_Ci_kinds, cg_Ci_firsts, cg_Ci_seconds, cg_Ci_inputVariables, cg_Ci_names, cg_Ci_nameLengths, cg_Ci_size, cp_Ci_size, cg_Ci_inputs, cp_Ci_inputs, cg_Re_rc, cg_Re_text, cg_Re_circuit, cg_Re_token, cp_Re_token, cg_Re_start, cp_Re_start, cg_Re_next, cp_Re_next, cg_Re_open, cp_Re_open, cg_Re_fault, cp_Re_fault, cg_Re_faultPlace, cp_Re_faultPlace, cg_Sa_rc, cg_Sa_circuit, cg_Sa_before, cg_Sa_trueBranches, cg_Sa_falseBranches, cg_Sa_tallies, cg_Sa_mostSteps, cp_Sa_mostSteps, cg_Sa_spent, cp_Sa_spent, cg_Ta_rc, cg_Ta_circuit, cg_Ta_words, cr_kinds, cw_kinds, cr_firsts, cw_firsts, cr_seconds, cw_seconds, cr_inputVariables, cw_inputVariables, cr_nameLengths, cw_nameLengths, cr_tallies, cw_tallies, cr_bytes, cw_bytes, cr_words, cw_words, cl_tallies, cr_names, cr_trueB, cr_falseB, cr_name, cw_name, cq_rc, cq_st, cq_size, cq_classes, cq_contradiction, cqp_size, cqp_classes, cqp_contradiction, cq_rd, cq_wr, cq_copy, cl_s_1, cl_s_2, cl_ar_1, cl_ar_2, cl_w_1, cl_w_2, nI_leI, hlt]
    refine c_fill (d := d) hX hc hok (by omega) (fun f hf => ?_)
    have hp2 : p < 240 := by omega
    have hq2 : q < 240 := by omega
    have wp := cs_wd_ok hok hf (Nat.le_refl _) hp
    have wq := cs_wd_ok hok hf (Nat.le_refl _) hq
    have wx : ∀ j, j < 64 → cs_wb (cs_wd f p ^^^ cs_wd f q) j = (sp_vl c (64 * k + j) p != sp_vl c (64 * k + j) q) := fun j hj => by
      rw [cs_wb_xor, wp j hj, wq j hj]
    simp (disch := first | exact ev_ok_i _ | exact ev_ok_r _ | exact ev_ok_n | omega | assumption | decide) only [e_Ta_leastDifference_32, e_Ta_leastDifference_33, e_Ta_leastDifference_34, e_Ta_leastDifference_37, e_Ta_leastDifference_38, e_Ta_leastDifference_39, e_Ta_leastDifference_42, e_Ta_leastDifference_43, e_Ta_leastDifference_45, e_Ta_leastDifference_47, e_Ta_leastDifference_48, ev_rm_n, ev_rm_i, ev_rm_r, ev_rm_l, ev_ok_n, ev_ok_i, ev_ok_r, Option.toList_some, Option.toList_none, List.cons_append, List.nil_append, true_and, and_true, true_or, or_true, reduceIte, Nat.reduceEqDiff, if_true, if_false, cg_Dp_rc, cg_Dp_text, cg_Dp_circuit, cg_Dp_reader, cg_Dp_current, cg_Dp_working, cg_Dp_saturator, cg_Dp_table, cg_Te_rc, cg_Te_bytes, cg_Te_length, cp_Te_length, cg_Ci_rc, cg_Ci_kinds, cg_Ci_firsts, cg_Ci_seconds, cg_Ci_inputVariables, cg_Ci_names, cg_Ci_nameLengths, cg_Ci_size, cp_Ci_size, cg_Ci_inputs, cp_Ci_inputs, cg_Re_rc, cg_Re_text, cg_Re_circuit, cg_Re_token, cp_Re_token, cg_Re_start, cp_Re_start, cg_Re_next, cp_Re_next, cg_Re_open, cp_Re_open, cg_Re_fault, cp_Re_fault, cg_Re_faultPlace, cp_Re_faultPlace, cg_Sa_rc, cg_Sa_circuit, cg_Sa_before, cg_Sa_trueBranches, cg_Sa_falseBranches, cg_Sa_tallies, cg_Sa_mostSteps, cp_Sa_mostSteps, cg_Sa_spent, cp_Sa_spent, cg_Ta_rc, cg_Ta_circuit, cg_Ta_words, cr_kinds, cw_kinds, cr_firsts, cw_firsts, cr_seconds, cw_seconds, cr_inputVariables, cw_inputVariables, cr_nameLengths, cw_nameLengths, cr_tallies, cw_tallies, cr_bytes, cw_bytes, cr_words, cw_words, cl_tallies, cr_names, cr_trueB, cr_falseB, cr_name, cw_name, cq_rc, cq_st, cq_size, cq_classes, cq_contradiction, cqp_size, cqp_classes, cqp_contradiction, cq_rd, cq_wr, cq_copy, cl_s_1, cl_s_2, cl_ar_1, cl_ar_2, cl_w_1, cl_w_2, c_taWord]
    have cm : lg_cmp (cs_wd f p ^^^ cs_wd f q) 0 = 0 ↔ cs_wd f p ^^^ cs_wd f q = 0 := by
      unfold lg_cmp
      generalize cs_wd f p ^^^ cs_wd f q = z
      constructor
      · intro h
        split at h
        · exact absurd h (by decide)
        · split at h
          · assumption
          · exact absurd h (by decide)
      · intro h; subst h; decide
    by_cases hz : cs_wd f p ^^^ cs_wd f q = 0
    · simp (disch := first | exact ev_ok_i _ | exact ev_ok_r _ | exact ev_ok_n | omega | assumption | decide) only [e_Ta_leastDifference_49, e_Ta_leastDifference_64, e_Ta_leastDifference_67, ev_rm_n, ev_rm_i, ev_rm_r, ev_rm_l, ev_ok_n, ev_ok_i, ev_ok_r, Option.toList_some, Option.toList_none, List.cons_append, List.nil_append, true_and, and_true, true_or, or_true, reduceIte, Nat.reduceEqDiff, if_true, if_false, cm.mpr hz, if_true, nI_1]
      refine ih (k + 1) (τ.1, f) _ (by omega) hc (fun n hn => ?_) hQ
      by_cases h1 : n < 64 * k
      · exact hall n h1
      · have := cs_wb_0.mp hz (n - 64 * k) (by omega)
        rw [wx _ (by omega), show 64 * k + (n - 64 * k) = n by omega] at this
        exact this
    · have nz : ¬ lg_cmp (cs_wd f p ^^^ cs_wd f q) 0 = 0 := fun y => hz (cm.mp y)
      have ex : ∃ j, j < 64 ∧ cs_wb (cs_wd f p ^^^ cs_wd f q) j = true := by
        by_cases h : ∃ j, j < 64 ∧ cs_wb (cs_wd f p ^^^ cs_wd f q) j = true
        · exact h
        · exact absurd (cs_wb_0.mpr (fun j hj => by
            cases hh : cs_wb (cs_wd f p ^^^ cs_wd f q) j with
            | false => rfl
            | true => exact absurd ⟨j, hj, hh⟩ h)) hz
      obtain ⟨r, r1, r2, r3⟩ := cs_least 64 ex
      have nt : ∀ (g1 : xo_G) (K : Option Value → xo_G → Prop), ev_C X (d + 2) m_Lo_numberOfTrailingZeros [.long (cs_wd f p ^^^ cs_wd f q)] g1 K ↔ K (some (.int (nI r))) g1 := fun g1 K => c_loNtz r1 r2 r3
      have sh6 : nI k <<< ((6 : Int32) &&& 31) = nI (k * 2 ^ 6) := pk_shlN _ 6 (by decide) (by omega)
      have hPr : (sp_vl c (64 * k + r) p != sp_vl c (64 * k + r) q) = true := by rw [← wx r r1]; exact r2
      have hPl : ∀ j, j < 64 * k + r → (sp_vl c j p != sp_vl c j q) = false := fun j hj => by
        by_cases h1 : j < 64 * k
        · exact hall j h1
        · have := r3 (j - 64 * k) (by omega)
          rw [wx _ (by omega), show 64 * k + (j - 64 * k) = j by omega] at this
          exact this
      have hin : 64 * k + r < 2 ^ cI c := by
        by_cases h : 64 * k + r < 2 ^ cI c
        · exact h
        · exfalso
          have hm : (64 * k + r) % 2 ^ cI c < 64 * k + r := Nat.lt_of_lt_of_le (Nat.mod_lt _ (Nat.two_pow_pos _)) (by omega)
          have h1 := hPl _ hm
          rw [← modp p hp, ← modp q hq, hPr] at h1
          cases h1
      have hfd := sp_fd_at (P := fun n => sp_vl c n p != sp_vl c n q) (2 ^ cI c) 0 (64 * k + r) (Nat.zero_le _) (by omega) hPr (fun j _ hj => hPl j hj)
      rw [hfd] at hQ
      simp (disch := first | exact ev_ok_i _ | exact ev_ok_r _ | exact ev_ok_n | omega | assumption | decide) only [e_Ta_leastDifference_49, e_Ta_leastDifference_52, e_Ta_leastDifference_54, e_Ta_leastDifference_56, e_Ta_leastDifference_57, e_Ta_leastDifference_59, e_Ta_leastDifference_62, e_Ta_leastDifference_63, ev_rm_n, ev_rm_i, ev_rm_r, ev_rm_l, ev_ok_n, ev_ok_i, ev_ok_r, Option.toList_some, Option.toList_none, List.cons_append, List.nil_append, true_and, and_true, true_or, or_true, reduceIte, Nat.reduceEqDiff, if_true, if_false, nz, if_false, nt, sh6, nI_add]
      rw [show k * 2 ^ 6 + r = 64 * k + r by omega]
      exact hQ f
theorem c_taLD {p q : Nat} (hX : cl_WX X B g) (hc : cl_cR τ c) (hok : sp_cok c) (hp : p < 2 * cN c) (hq : q < 2 * cN c) (hI : cI c ≤ 14) (hQ : ∀ f, Q (some (.int (match sp_fd (fun n => sp_vl c n p != sp_vl c n q) 0 (2 ^ cI c) with | some r => nI r | none => -7))) (cl_put B (τ.1, f) g)) : ev_C X (d + 3) m_Ta_leastDifference [.ref (B + 61), .int (nI p), .int (nI q)] (cl_put B τ g) Q := by
  show ev_R X (d + 3) m_Ta_leastDifference 0 [some (.ref (B + 61)), some (.int (nI p)), some (.int (nI q)), none, none, none, none] [] (cl_put B τ g) Q
  have e0 : (0 : Int32) = nI 0 := rfl
  have hI7 := hc.2.1
  have mx : (if (0 : Int32) < nI (cI c) - 6 then nI (cI c) - 6 else 0) = nI (cI c - 6) := by
    by_cases h : 6 ≤ cI c
    · have sub : nI (cI c) - 6 = nI (cI c - 6) := nL_sub (b := 6) h
      rw [sub]
      by_cases h2 : cI c - 6 = 0
      · rw [h2]; decide
      · rw [if_pos (show (0 : Int32) < nI (cI c - 6) from nI_lt (a := 0) (by omega) (by omega))]
    · have hn : nI (cI c) - 6 < 0 := pk_sneg (b := 6) (by decide) (by omega)
      rw [if_neg (fun z => Int32.lt_irrefl (Int32.lt_trans z hn)), show cI c - 6 = 0 by omega]
      rfl
  simp (disch := first | exact ev_ok_i _ | exact ev_ok_r _ | exact ev_ok_n | omega | assumption | decide) only [e_Ta_leastDifference_0, e_Ta_leastDifference_1, e_Ta_leastDifference_2, e_Ta_leastDifference_3, e_Ta_leastDifference_6, e_Ta_leastDifference_9, e_Ta_leastDifference_11, e_Ta_leastDifference_12, e_Ta_leastDifference_15, e_Ta_leastDifference_16, e_Ta_leastDifference_17, e_Ta_leastDifference_18, ev_rm_n, ev_rm_i, ev_rm_r, ev_rm_l, ev_ok_n, ev_ok_i, ev_ok_r, Option.toList_some, Option.toList_none, List.cons_append, List.nil_append, true_and, and_true, true_or, or_true, reduceIte, Nat.reduceEqDiff, if_true, if_false, cg_Dp_rc, cg_Dp_text, cg_Dp_circuit, cg_Dp_reader, cg_Dp_current, cg_Dp_working, cg_Dp_saturator, cg_Dp_table, cg_Te_rc, cg_Te_bytes, cg_Te_length, cp_Te_length, cg_Ci_rc, cg_Ci_kinds, cg_Ci_firsts, cg_Ci_seconds, cg_Ci_inputVariables, cg_Ci_names, cg_Ci_nameLengths, cg_Ci_size, cp_Ci_size, cg_Ci_inputs, cp_Ci_inputs, cg_Re_rc, cg_Re_text, cg_Re_circuit, cg_Re_token, cp_Re_token, cg_Re_start, cp_Re_start, cg_Re_next, cp_Re_next, cg_Re_open, cp_Re_open, cg_Re_fault, cp_Re_fault, cg_Re_faultPlace, cp_Re_faultPlace, cg_Sa_rc, cg_Sa_circuit, cg_Sa_before, cg_Sa_trueBranches, cg_Sa_falseBranches, cg_Sa_tallies, cg_Sa_mostSteps, cp_Sa_mostSteps, cg_Sa_spent, cp_Sa_spent, cg_Ta_rc, cg_Ta_circuit, cg_Ta_words, cr_kinds, cw_kinds, cr_firsts, cw_firsts, cr_seconds, cw_seconds, cr_inputVariables, cw_inputVariables, cr_nameLengths, cw_nameLengths, cr_tallies, cw_tallies, cr_bytes, cw_bytes, cr_words, cw_words, cl_tallies, cr_names, cr_trueB, cr_falseB, cr_name, cw_name, cq_rc, cq_st, cq_size, cq_classes, cq_contradiction, cqp_size, cqp_classes, cqp_contradiction, cq_rd, cq_wr, cq_copy, cl_s_1, cl_s_2, cl_ar_1, cl_ar_2, cl_w_1, cl_w_2, c_ciInputs, hI7, mx, sh_1]
  rw [e0]
  exact c_taLD_loop hX hok hp hq hI (2 ^ (cI c - 6)) 0 τ none (by omega) hc (fun n hn => absurd hn (by omega)) hQ
theorem c_dpValue (hX : cl_WX X B g) (hR : cl_R τ w) (hw : sp_wok w) (x n : Int32) (hQ : ∀ τ2, cl_R τ2 w → Q (some (.int (sp_value w x n))) (cl_put B τ2 g)) : ev_C X (d + 4) m_Dp_value [.ref B, .int x, .int n] (cl_put B τ g) Q := by
  show ev_R X (d + 4) m_Dp_value 0 [some (.ref B), some (.int x), some (.int n)] [] (cl_put B τ g) Q
  have hN : τ.1 3 6 = nI (cN w.1) := hR.1.1.1.1
  have hn := hw.1.1.2.1
  have hi24 := hw.1.1.2.2
  have i10 : ¬ (1 : Int32) = 0 := by decide
  have hl : ∀ (K : Option Value → xo_G → Prop), ev_C X (d + 3) m_Ci_hasLiteral [.ref (B + 3), .int x] (cl_put B τ g) K ↔ K (some (.int (match sp_lit (cN w.1) x with | some _ => 1 | none => 0))) (cl_put B τ g) := fun K => c_hasLiteral hN hn x
  simp (disch := first | exact ev_ok_i _ | exact ev_ok_r _ | exact ev_ok_n | omega | assumption | decide) only [e_Dp_value_0, e_Dp_value_1, e_Dp_value_4, e_Dp_value_5, ev_rm_n, ev_rm_i, ev_rm_r, ev_rm_l, ev_ok_n, ev_ok_i, ev_ok_r, Option.toList_some, Option.toList_none, List.cons_append, List.nil_append, true_and, and_true, true_or, or_true, reduceIte, Nat.reduceEqDiff, if_true, if_false, cg_Dp_rc, cg_Dp_text, cg_Dp_circuit, cg_Dp_reader, cg_Dp_current, cg_Dp_working, cg_Dp_saturator, cg_Dp_table, cg_Te_rc, cg_Te_bytes, cg_Te_length, cp_Te_length, cg_Ci_rc, cg_Ci_kinds, cg_Ci_firsts, cg_Ci_seconds, cg_Ci_inputVariables, cg_Ci_names, cg_Ci_nameLengths, cg_Ci_size, cp_Ci_size, cg_Ci_inputs, cp_Ci_inputs, cg_Re_rc, cg_Re_text, cg_Re_circuit, cg_Re_token, cp_Re_token, cg_Re_start, cp_Re_start, cg_Re_next, cp_Re_next, cg_Re_open, cp_Re_open, cg_Re_fault, cp_Re_fault, cg_Re_faultPlace, cp_Re_faultPlace, cg_Sa_rc, cg_Sa_circuit, cg_Sa_before, cg_Sa_trueBranches, cg_Sa_falseBranches, cg_Sa_tallies, cg_Sa_mostSteps, cp_Sa_mostSteps, cg_Sa_spent, cp_Sa_spent, cg_Ta_rc, cg_Ta_circuit, cg_Ta_words, cr_kinds, cw_kinds, cr_firsts, cw_firsts, cr_seconds, cw_seconds, cr_inputVariables, cw_inputVariables, cr_nameLengths, cw_nameLengths, cr_tallies, cw_tallies, cr_bytes, cw_bytes, cr_words, cw_words, cl_tallies, cr_names, cr_trueB, cr_falseB, cr_name, cw_name, cq_rc, cq_st, cq_size, cq_classes, cq_contradiction, cqp_size, cqp_classes, cqp_contradiction, cq_rd, cq_wr, cq_copy, cl_s_1, cl_s_2, cl_ar_1, cl_ar_2, cl_w_1, cl_w_2, hl]
  unfold sp_value at hQ
  cases h : sp_lit (cN w.1) x with
  | none =>
    rw [h] at hQ
    simp (disch := first | exact ev_ok_i _ | exact ev_ok_r _ | exact ev_ok_n | omega | assumption | decide) only [e_Dp_value_8, e_Dp_value_11, e_Dp_value_12, ev_rm_n, ev_rm_i, ev_rm_r, ev_rm_l, ev_ok_n, ev_ok_i, ev_ok_r, Option.toList_some, Option.toList_none, List.cons_append, List.nil_append, true_and, and_true, true_or, or_true, reduceIte, Nat.reduceEqDiff, if_true, if_false, not_true_eq_false, if_false]
    exact hQ τ hR
  | some p =>
    rw [h] at hQ
    dsimp only at hQ
    obtain ⟨rfl, hp⟩ := sp_lit_s h
    have hI := hR.1.2.1
    have hpw : 2 ^ cI w.1 ≤ 2 ^ 24 := Nat.pow_le_pow_right (by decide) hi24
    have h1 : 1 ≤ 2 ^ cI w.1 := Nat.one_le_two_pow
    have sub : nI (2 ^ cI w.1) - 1 = nI (2 ^ cI w.1 - 1) := nL_sub (b := 1) h1
    simp (disch := first | exact ev_ok_i _ | exact ev_ok_r _ | exact ev_ok_n | omega | assumption | decide) only [e_Dp_value_8, e_Dp_value_13, e_Dp_value_14, e_Dp_value_15, e_Dp_value_16, e_Dp_value_19, e_Dp_value_22, e_Dp_value_23, e_Dp_value_24, e_Dp_value_25, ev_rm_n, ev_rm_i, ev_rm_r, ev_rm_l, ev_ok_n, ev_ok_i, ev_ok_r, Option.toList_some, Option.toList_none, List.cons_append, List.nil_append, true_and, and_true, true_or, or_true, reduceIte, Nat.reduceEqDiff, if_true, if_false, cg_Dp_rc, cg_Dp_text, cg_Dp_circuit, cg_Dp_reader, cg_Dp_current, cg_Dp_working, cg_Dp_saturator, cg_Dp_table, cg_Te_rc, cg_Te_bytes, cg_Te_length, cp_Te_length, cg_Ci_rc, cg_Ci_kinds, cg_Ci_firsts, cg_Ci_seconds, cg_Ci_inputVariables, cg_Ci_names, cg_Ci_nameLengths, cg_Ci_size, cp_Ci_size, cg_Ci_inputs, cp_Ci_inputs, cg_Re_rc, cg_Re_text, cg_Re_circuit, cg_Re_token, cp_Re_token, cg_Re_start, cp_Re_start, cg_Re_next, cp_Re_next, cg_Re_open, cp_Re_open, cg_Re_fault, cp_Re_fault, cg_Re_faultPlace, cp_Re_faultPlace, cg_Sa_rc, cg_Sa_circuit, cg_Sa_before, cg_Sa_trueBranches, cg_Sa_falseBranches, cg_Sa_tallies, cg_Sa_mostSteps, cp_Sa_mostSteps, cg_Sa_spent, cp_Sa_spent, cg_Ta_rc, cg_Ta_circuit, cg_Ta_words, cr_kinds, cw_kinds, cr_firsts, cw_firsts, cr_seconds, cw_seconds, cr_inputVariables, cw_inputVariables, cr_nameLengths, cw_nameLengths, cr_tallies, cw_tallies, cr_bytes, cw_bytes, cr_words, cw_words, cl_tallies, cr_names, cr_trueB, cr_falseB, cr_name, cw_name, cq_rc, cq_st, cq_size, cq_classes, cq_contradiction, cqp_size, cqp_classes, cqp_contradiction, cq_rd, cq_wr, cq_copy, cl_s_1, cl_s_2, cl_ar_1, cl_ar_2, cl_w_1, cl_w_2, i10, not_false_eq_true, if_true, c_ciInputs, hI, sh_1, sub, c_isUpTo]
    by_cases c0 : n < 0
    · rw [if_pos (Or.inl c0)] at hQ
      simp (disch := first | exact ev_ok_i _ | exact ev_ok_r _ | exact ev_ok_n | omega | assumption | decide) only [c0, true_or, if_true, e_Dp_value_28, e_Dp_value_31, e_Dp_value_33, ev_rm_n, ev_rm_i, ev_rm_r, ev_rm_l, ev_ok_n, ev_ok_i, ev_ok_r, Option.toList_some, Option.toList_none, List.cons_append, List.nil_append, true_and, and_true, true_or, or_true, reduceIte, Nat.reduceEqDiff, if_true, if_false, not_true_eq_false, if_false]
      exact hQ τ hR
    · obtain ⟨m, hm, rfl⟩ := nI_of c0
      rw [nI_clamp hm] at hQ
      have cc : nI (2 ^ cI w.1 - 1) < nI m ↔ 2 ^ cI w.1 - 1 < m := nI_ltI (by omega) hm
      simp only [c0, false_or, cc] at hQ ⊢
      by_cases c1 : 2 ^ cI w.1 ≤ m
      · rw [if_pos c1] at hQ
        have c1' : 2 ^ cI w.1 - 1 < m := by omega
        simp (disch := first | exact ev_ok_i _ | exact ev_ok_r _ | exact ev_ok_n | omega | assumption | decide) only [c1', if_true, e_Dp_value_28, e_Dp_value_31, e_Dp_value_33, ev_rm_n, ev_rm_i, ev_rm_r, ev_rm_l, ev_ok_n, ev_ok_i, ev_ok_r, Option.toList_some, Option.toList_none, List.cons_append, List.nil_append, true_and, and_true, true_or, or_true, reduceIte, Nat.reduceEqDiff, if_true, if_false, not_true_eq_false, if_false]
        exact hQ τ hR
      · rw [if_neg c1] at hQ
        have c1' : ¬ 2 ^ cI w.1 - 1 < m := by omega
        simp (disch := first | exact ev_ok_i _ | exact ev_ok_r _ | exact ev_ok_n | omega | assumption | decide) only [c1', if_false, e_Dp_value_28, e_Dp_value_34, e_Dp_value_35, e_Dp_value_38, e_Dp_value_39, ev_rm_n, ev_rm_i, ev_rm_r, ev_rm_l, ev_ok_n, ev_ok_i, ev_ok_r, Option.toList_some, Option.toList_none, List.cons_append, List.nil_append, true_and, and_true, true_or, or_true, reduceIte, Nat.reduceEqDiff, if_true, if_false, cg_Dp_rc, cg_Dp_text, cg_Dp_circuit, cg_Dp_reader, cg_Dp_current, cg_Dp_working, cg_Dp_saturator, cg_Dp_table, cg_Te_rc, cg_Te_bytes, cg_Te_length, cp_Te_length, cg_Ci_rc, cg_Ci_kinds, cg_Ci_firsts, cg_Ci_seconds, cg_Ci_inputVariables, cg_Ci_names, cg_Ci_nameLengths, cg_Ci_size, cp_Ci_size, cg_Ci_inputs, cp_Ci_inputs, cg_Re_rc, cg_Re_text, cg_Re_circuit, cg_Re_token, cp_Re_token, cg_Re_start, cp_Re_start, cg_Re_next, cp_Re_next, cg_Re_open, cp_Re_open, cg_Re_fault, cp_Re_fault, cg_Re_faultPlace, cp_Re_faultPlace, cg_Sa_rc, cg_Sa_circuit, cg_Sa_before, cg_Sa_trueBranches, cg_Sa_falseBranches, cg_Sa_tallies, cg_Sa_mostSteps, cp_Sa_mostSteps, cg_Sa_spent, cp_Sa_spent, cg_Ta_rc, cg_Ta_circuit, cg_Ta_words, cr_kinds, cw_kinds, cr_firsts, cw_firsts, cr_seconds, cw_seconds, cr_inputVariables, cw_inputVariables, cr_nameLengths, cw_nameLengths, cr_tallies, cw_tallies, cr_bytes, cw_bytes, cr_words, cw_words, cl_tallies, cr_names, cr_trueB, cr_falseB, cr_name, cw_name, cq_rc, cq_st, cq_size, cq_classes, cq_contradiction, cqp_size, cqp_classes, cqp_contradiction, cq_rd, cq_wr, cq_copy, cl_s_1, cl_s_2, cl_ar_1, cl_ar_2, cl_w_1, cl_w_2, i10, not_false_eq_true, if_true]
        rw [e_Dp_value_40]
        simp (disch := first | exact ev_ok_i _ | exact ev_ok_r _ | exact ev_ok_n | omega | assumption | decide) only [ev_rm_n, ev_rm_i, ev_rm_r, ev_rm_l, ev_ok_n, ev_ok_i, ev_ok_r, Option.toList_some, Option.toList_none, List.cons_append, List.nil_append, true_and, and_true, true_or, or_true, reduceIte, Nat.reduceEqDiff, if_true, if_false, cg_Dp_rc, cg_Dp_text, cg_Dp_circuit, cg_Dp_reader, cg_Dp_current, cg_Dp_working, cg_Dp_saturator, cg_Dp_table, cg_Te_rc, cg_Te_bytes, cg_Te_length, cp_Te_length, cg_Ci_rc, cg_Ci_kinds, cg_Ci_firsts, cg_Ci_seconds, cg_Ci_inputVariables, cg_Ci_names, cg_Ci_nameLengths, cg_Ci_size, cp_Ci_size, cg_Ci_inputs, cp_Ci_inputs, cg_Re_rc, cg_Re_text, cg_Re_circuit, cg_Re_token, cp_Re_token, cg_Re_start, cp_Re_start, cg_Re_next, cp_Re_next, cg_Re_open, cp_Re_open, cg_Re_fault, cp_Re_fault, cg_Re_faultPlace, cp_Re_faultPlace, cg_Sa_rc, cg_Sa_circuit, cg_Sa_before, cg_Sa_trueBranches, cg_Sa_falseBranches, cg_Sa_tallies, cg_Sa_mostSteps, cp_Sa_mostSteps, cg_Sa_spent, cp_Sa_spent, cg_Ta_rc, cg_Ta_circuit, cg_Ta_words, cr_kinds, cw_kinds, cr_firsts, cw_firsts, cr_seconds, cw_seconds, cr_inputVariables, cw_inputVariables, cr_nameLengths, cw_nameLengths, cr_tallies, cw_tallies, cr_bytes, cw_bytes, cr_words, cw_words, cl_tallies, cr_names, cr_trueB, cr_falseB, cr_name, cw_name, cq_rc, cq_st, cq_size, cq_classes, cq_contradiction, cqp_size, cqp_classes, cqp_contradiction, cq_rd, cq_wr, cq_copy, cl_s_1, cl_s_2, cl_ar_1, cl_ar_2, cl_w_1, cl_w_2]
        refine c_taBit hX hR.1 hw.1 hp hm (fun f => ?_)
        simp (disch := first | exact ev_ok_i _ | exact ev_ok_r _ | exact ev_ok_n | omega | assumption | decide) only [e_Dp_value_43, ev_rm_n, ev_rm_i, ev_rm_r, ev_rm_l, ev_ok_n, ev_ok_i, ev_ok_r, Option.toList_some, Option.toList_none, List.cons_append, List.nil_append, true_and, and_true, true_or, or_true, reduceIte, Nat.reduceEqDiff, if_true, if_false]
        exact hQ (τ.1, f) hR
theorem c_dpModel (hX : cl_WX X B g) (hR : cl_R τ w) (hw : sp_wok w) (x : Int32) (hQ : ∀ τ2, cl_R τ2 w → Q (some (.int (sp_model w x))) (cl_put B τ2 g)) : ev_C X (d + 4) m_Dp_model [.ref B, .int x] (cl_put B τ g) Q := by
  show ev_R X (d + 4) m_Dp_model 0 [some (.ref B), some (.int x)] [] (cl_put B τ g) Q
  have hN : τ.1 3 6 = nI (cN w.1) := hR.1.1.1.1
  have hn := hw.1.1.2.1
  have h1n := hw.1.1.1
  have hi24 := hw.1.1.2.2
  have i10 : ¬ (1 : Int32) = 0 := by decide
  have hl : ∀ (K : Option Value → xo_G → Prop), ev_C X (d + 3) m_Ci_hasLiteral [.ref (B + 3), .int x] (cl_put B τ g) K ↔ K (some (.int (match sp_lit (cN w.1) x with | some _ => 1 | none => 0))) (cl_put B τ g) := fun K => c_hasLiteral hN hn x
  simp (disch := first | exact ev_ok_i _ | exact ev_ok_r _ | exact ev_ok_n | omega | assumption | decide) only [e_Dp_model_0, e_Dp_model_1, e_Dp_model_4, e_Dp_model_5, ev_rm_n, ev_rm_i, ev_rm_r, ev_rm_l, ev_ok_n, ev_ok_i, ev_ok_r, Option.toList_some, Option.toList_none, List.cons_append, List.nil_append, true_and, and_true, true_or, or_true, reduceIte, Nat.reduceEqDiff, if_true, if_false, cg_Dp_rc, cg_Dp_text, cg_Dp_circuit, cg_Dp_reader, cg_Dp_current, cg_Dp_working, cg_Dp_saturator, cg_Dp_table, cg_Te_rc, cg_Te_bytes, cg_Te_length, cp_Te_length, cg_Ci_rc, cg_Ci_kinds, cg_Ci_firsts, cg_Ci_seconds, cg_Ci_inputVariables, cg_Ci_names, cg_Ci_nameLengths, cg_Ci_size, cp_Ci_size, cg_Ci_inputs, cp_Ci_inputs, cg_Re_rc, cg_Re_text, cg_Re_circuit, cg_Re_token, cp_Re_token, cg_Re_start, cp_Re_start, cg_Re_next, cp_Re_next, cg_Re_open, cp_Re_open, cg_Re_fault, cp_Re_fault, cg_Re_faultPlace, cp_Re_faultPlace, cg_Sa_rc, cg_Sa_circuit, cg_Sa_before, cg_Sa_trueBranches, cg_Sa_falseBranches, cg_Sa_tallies, cg_Sa_mostSteps, cp_Sa_mostSteps, cg_Sa_spent, cp_Sa_spent, cg_Ta_rc, cg_Ta_circuit, cg_Ta_words, cr_kinds, cw_kinds, cr_firsts, cw_firsts, cr_seconds, cw_seconds, cr_inputVariables, cw_inputVariables, cr_nameLengths, cw_nameLengths, cr_tallies, cw_tallies, cr_bytes, cw_bytes, cr_words, cw_words, cl_tallies, cr_names, cr_trueB, cr_falseB, cr_name, cw_name, cq_rc, cq_st, cq_size, cq_classes, cq_contradiction, cqp_size, cqp_classes, cqp_contradiction, cq_rd, cq_wr, cq_copy, cl_s_1, cl_s_2, cl_ar_1, cl_ar_2, cl_w_1, cl_w_2, hl]
  unfold sp_model at hQ
  cases h : sp_lit (cN w.1) x with
  | none =>
    rw [h] at hQ
    simp (disch := first | exact ev_ok_i _ | exact ev_ok_r _ | exact ev_ok_n | omega | assumption | decide) only [e_Dp_model_8, e_Dp_model_11, e_Dp_model_12, ev_rm_n, ev_rm_i, ev_rm_r, ev_rm_l, ev_ok_n, ev_ok_i, ev_ok_r, Option.toList_some, Option.toList_none, List.cons_append, List.nil_append, true_and, and_true, true_or, or_true, reduceIte, Nat.reduceEqDiff, if_true, if_false, not_true_eq_false, if_false]
    exact hQ τ hR
  | some p =>
    rw [h] at hQ
    dsimp only at hQ
    obtain ⟨rfl, hp⟩ := sp_lit_s h
    have hI := hR.1.2.1
    have cc : nI (cI w.1) ≤ 14 ↔ cI w.1 ≤ 14 := nI_leI (b := 14) (by omega) (by decide)
    simp (disch := first | exact ev_ok_i _ | exact ev_ok_r _ | exact ev_ok_n | omega | assumption | decide) only [e_Dp_model_8, e_Dp_model_13, e_Dp_model_14, e_Dp_model_17, e_Dp_model_20, e_Dp_model_22, ev_rm_n, ev_rm_i, ev_rm_r, ev_rm_l, ev_ok_n, ev_ok_i, ev_ok_r, Option.toList_some, Option.toList_none, List.cons_append, List.nil_append, true_and, and_true, true_or, or_true, reduceIte, Nat.reduceEqDiff, if_true, if_false, cg_Dp_rc, cg_Dp_text, cg_Dp_circuit, cg_Dp_reader, cg_Dp_current, cg_Dp_working, cg_Dp_saturator, cg_Dp_table, cg_Te_rc, cg_Te_bytes, cg_Te_length, cp_Te_length, cg_Ci_rc, cg_Ci_kinds, cg_Ci_firsts, cg_Ci_seconds, cg_Ci_inputVariables, cg_Ci_names, cg_Ci_nameLengths, cg_Ci_size, cp_Ci_size, cg_Ci_inputs, cp_Ci_inputs, cg_Re_rc, cg_Re_text, cg_Re_circuit, cg_Re_token, cp_Re_token, cg_Re_start, cp_Re_start, cg_Re_next, cp_Re_next, cg_Re_open, cp_Re_open, cg_Re_fault, cp_Re_fault, cg_Re_faultPlace, cp_Re_faultPlace, cg_Sa_rc, cg_Sa_circuit, cg_Sa_before, cg_Sa_trueBranches, cg_Sa_falseBranches, cg_Sa_tallies, cg_Sa_mostSteps, cp_Sa_mostSteps, cg_Sa_spent, cp_Sa_spent, cg_Ta_rc, cg_Ta_circuit, cg_Ta_words, cr_kinds, cw_kinds, cr_firsts, cw_firsts, cr_seconds, cw_seconds, cr_inputVariables, cw_inputVariables, cr_nameLengths, cw_nameLengths, cr_tallies, cw_tallies, cr_bytes, cw_bytes, cr_words, cw_words, cl_tallies, cr_names, cr_trueB, cr_falseB, cr_name, cw_name, cq_rc, cq_st, cq_size, cq_classes, cq_contradiction, cqp_size, cqp_classes, cqp_contradiction, cq_rd, cq_wr, cq_copy, cl_s_1, cl_s_2, cl_ar_1, cl_ar_2, cl_w_1, cl_w_2, i10, not_false_eq_true, if_true, c_ciInputs, hI, cc]
    by_cases c14 : 14 < cI w.1
    · rw [if_pos c14] at hQ
      have c' : ¬ cI w.1 ≤ 14 := by omega
      simp (disch := first | exact ev_ok_i _ | exact ev_ok_r _ | exact ev_ok_n | omega | assumption | decide) only [c', if_false, e_Dp_model_25, e_Dp_model_27, ev_rm_n, ev_rm_i, ev_rm_r, ev_rm_l, ev_ok_n, ev_ok_i, ev_ok_r, Option.toList_some, Option.toList_none, List.cons_append, List.nil_append, true_and, and_true, true_or, or_true, reduceIte, Nat.reduceEqDiff, if_true, if_false]
      exact hQ τ hR
    · rw [if_neg c14] at hQ
      have c' : cI w.1 ≤ 14 := by omega
      have e0 : (0 : Int32) = nI 0 := rfl
      simp (disch := first | exact ev_ok_i _ | exact ev_ok_r _ | exact ev_ok_n | omega | assumption | decide) only [c', if_true, e_Dp_model_28, e_Dp_model_29, e_Dp_model_32, e_Dp_model_33, ev_rm_n, ev_rm_i, ev_rm_r, ev_rm_l, ev_ok_n, ev_ok_i, ev_ok_r, Option.toList_some, Option.toList_none, List.cons_append, List.nil_append, true_and, and_true, true_or, or_true, reduceIte, Nat.reduceEqDiff, if_true, if_false, cg_Dp_rc, cg_Dp_text, cg_Dp_circuit, cg_Dp_reader, cg_Dp_current, cg_Dp_working, cg_Dp_saturator, cg_Dp_table, cg_Te_rc, cg_Te_bytes, cg_Te_length, cp_Te_length, cg_Ci_rc, cg_Ci_kinds, cg_Ci_firsts, cg_Ci_seconds, cg_Ci_inputVariables, cg_Ci_names, cg_Ci_nameLengths, cg_Ci_size, cp_Ci_size, cg_Ci_inputs, cp_Ci_inputs, cg_Re_rc, cg_Re_text, cg_Re_circuit, cg_Re_token, cp_Re_token, cg_Re_start, cp_Re_start, cg_Re_next, cp_Re_next, cg_Re_open, cp_Re_open, cg_Re_fault, cp_Re_fault, cg_Re_faultPlace, cp_Re_faultPlace, cg_Sa_rc, cg_Sa_circuit, cg_Sa_before, cg_Sa_trueBranches, cg_Sa_falseBranches, cg_Sa_tallies, cg_Sa_mostSteps, cp_Sa_mostSteps, cg_Sa_spent, cp_Sa_spent, cg_Ta_rc, cg_Ta_circuit, cg_Ta_words, cr_kinds, cw_kinds, cr_firsts, cw_firsts, cr_seconds, cw_seconds, cr_inputVariables, cw_inputVariables, cr_nameLengths, cw_nameLengths, cr_tallies, cw_tallies, cr_bytes, cw_bytes, cr_words, cw_words, cl_tallies, cr_names, cr_trueB, cr_falseB, cr_name, cw_name, cq_rc, cq_st, cq_size, cq_classes, cq_contradiction, cqp_size, cqp_classes, cqp_contradiction, cq_rd, cq_wr, cq_copy, cl_s_1, cl_s_2, cl_ar_1, cl_ar_2, cl_w_1, cl_w_2]
      rw [e_Dp_model_34]
      simp (disch := first | exact ev_ok_i _ | exact ev_ok_r _ | exact ev_ok_n | omega | assumption | decide) only [ev_rm_n, ev_rm_i, ev_rm_r, ev_rm_l, ev_ok_n, ev_ok_i, ev_ok_r, Option.toList_some, Option.toList_none, List.cons_append, List.nil_append, true_and, and_true, true_or, or_true, reduceIte, Nat.reduceEqDiff, if_true, if_false, cg_Dp_rc, cg_Dp_text, cg_Dp_circuit, cg_Dp_reader, cg_Dp_current, cg_Dp_working, cg_Dp_saturator, cg_Dp_table, cg_Te_rc, cg_Te_bytes, cg_Te_length, cp_Te_length, cg_Ci_rc, cg_Ci_kinds, cg_Ci_firsts, cg_Ci_seconds, cg_Ci_inputVariables, cg_Ci_names, cg_Ci_nameLengths, cg_Ci_size, cp_Ci_size, cg_Ci_inputs, cp_Ci_inputs, cg_Re_rc, cg_Re_text, cg_Re_circuit, cg_Re_token, cp_Re_token, cg_Re_start, cp_Re_start, cg_Re_next, cp_Re_next, cg_Re_open, cp_Re_open, cg_Re_fault, cp_Re_fault, cg_Re_faultPlace, cp_Re_faultPlace, cg_Sa_rc, cg_Sa_circuit, cg_Sa_before, cg_Sa_trueBranches, cg_Sa_falseBranches, cg_Sa_tallies, cg_Sa_mostSteps, cp_Sa_mostSteps, cg_Sa_spent, cp_Sa_spent, cg_Ta_rc, cg_Ta_circuit, cg_Ta_words, cr_kinds, cw_kinds, cr_firsts, cw_firsts, cr_seconds, cw_seconds, cr_inputVariables, cw_inputVariables, cr_nameLengths, cw_nameLengths, cr_tallies, cw_tallies, cr_bytes, cw_bytes, cr_words, cw_words, cl_tallies, cr_names, cr_trueB, cr_falseB, cr_name, cw_name, cq_rc, cq_st, cq_size, cq_classes, cq_contradiction, cqp_size, cqp_classes, cqp_contradiction, cq_rd, cq_wr, cq_copy, cl_s_1, cl_s_2, cl_ar_1, cl_ar_2, cl_w_1, cl_w_2]
      rw [e0]
      refine c_taLD hX hR.1 hw.1 hp (by omega) c' (fun f => ?_)
      simp (disch := first | exact ev_ok_i _ | exact ev_ok_r _ | exact ev_ok_n | omega | assumption | decide) only [e_Dp_model_37, ev_rm_n, ev_rm_i, ev_rm_r, ev_rm_l, ev_ok_n, ev_ok_i, ev_ok_r, Option.toList_some, Option.toList_none, List.cons_append, List.nil_append, true_and, and_true, true_or, or_true, reduceIte, Nat.reduceEqDiff, if_true, if_false]
      have ef : (fun n => sp_vl w.1 n p != sp_vl w.1 n 0) = (fun n => !sp_vl w.1 n p) := by
        funext n
        rw [(sp_vl_0 h1n n).1]
        cases sp_vl w.1 n p <;> rfl
      rw [ef]
      exact hQ (τ.1, f) hR
theorem c_dpAlike (hX : cl_WX X B g) (hR : cl_R τ w) (hw : sp_wok w) (x y : Int32) (hQ : ∀ τ2, cl_R τ2 w → Q (some (.int (sp_alike w x y))) (cl_put B τ2 g)) : ev_C X (d + 4) m_Dp_alike [.ref B, .int x, .int y] (cl_put B τ g) Q := by
  show ev_R X (d + 4) m_Dp_alike 0 [some (.ref B), some (.int x), some (.int y)] [] (cl_put B τ g) Q
  have hN : τ.1 3 6 = nI (cN w.1) := hR.1.1.1.1
  have hn := hw.1.1.2.1
  have hi24 := hw.1.1.2.2
  have i10 : ¬ (1 : Int32) = 0 := by decide
  have hl : ∀ (K : Option Value → xo_G → Prop), ev_C X (d + 3) m_Ci_hasLiterals [.ref (B + 3), .int x, .int y] (cl_put B τ g) K ↔ K (some (.int (match sp_lit (cN w.1) x, sp_lit (cN w.1) y with | some _, some _ => 1 | _, _ => 0))) (cl_put B τ g) := fun K => c_hasLiterals (d := d + 2) hN hn x y
  simp (disch := first | exact ev_ok_i _ | exact ev_ok_r _ | exact ev_ok_n | omega | assumption | decide) only [e_Dp_alike_0, e_Dp_alike_1, e_Dp_alike_4, e_Dp_alike_5, e_Dp_alike_6, ev_rm_n, ev_rm_i, ev_rm_r, ev_rm_l, ev_ok_n, ev_ok_i, ev_ok_r, Option.toList_some, Option.toList_none, List.cons_append, List.nil_append, true_and, and_true, true_or, or_true, reduceIte, Nat.reduceEqDiff, if_true, if_false, cg_Dp_rc, cg_Dp_text, cg_Dp_circuit, cg_Dp_reader, cg_Dp_current, cg_Dp_working, cg_Dp_saturator, cg_Dp_table, cg_Te_rc, cg_Te_bytes, cg_Te_length, cp_Te_length, cg_Ci_rc, cg_Ci_kinds, cg_Ci_firsts, cg_Ci_seconds, cg_Ci_inputVariables, cg_Ci_names, cg_Ci_nameLengths, cg_Ci_size, cp_Ci_size, cg_Ci_inputs, cp_Ci_inputs, cg_Re_rc, cg_Re_text, cg_Re_circuit, cg_Re_token, cp_Re_token, cg_Re_start, cp_Re_start, cg_Re_next, cp_Re_next, cg_Re_open, cp_Re_open, cg_Re_fault, cp_Re_fault, cg_Re_faultPlace, cp_Re_faultPlace, cg_Sa_rc, cg_Sa_circuit, cg_Sa_before, cg_Sa_trueBranches, cg_Sa_falseBranches, cg_Sa_tallies, cg_Sa_mostSteps, cp_Sa_mostSteps, cg_Sa_spent, cp_Sa_spent, cg_Ta_rc, cg_Ta_circuit, cg_Ta_words, cr_kinds, cw_kinds, cr_firsts, cw_firsts, cr_seconds, cw_seconds, cr_inputVariables, cw_inputVariables, cr_nameLengths, cw_nameLengths, cr_tallies, cw_tallies, cr_bytes, cw_bytes, cr_words, cw_words, cl_tallies, cr_names, cr_trueB, cr_falseB, cr_name, cw_name, cq_rc, cq_st, cq_size, cq_classes, cq_contradiction, cqp_size, cqp_classes, cqp_contradiction, cq_rd, cq_wr, cq_copy, cl_s_1, cl_s_2, cl_ar_1, cl_ar_2, cl_w_1, cl_w_2, hl]
  unfold sp_alike at hQ
  cases ha : sp_lit (cN w.1) x with
  | none =>
    rw [ha] at hQ
    simp (disch := first | exact ev_ok_i _ | exact ev_ok_r _ | exact ev_ok_n | omega | assumption | decide) only [e_Dp_alike_9, e_Dp_alike_12, e_Dp_alike_13, ev_rm_n, ev_rm_i, ev_rm_r, ev_rm_l, ev_ok_n, ev_ok_i, ev_ok_r, Option.toList_some, Option.toList_none, List.cons_append, List.nil_append, true_and, and_true, true_or, or_true, reduceIte, Nat.reduceEqDiff, if_true, if_false, not_true_eq_false, if_false]
    exact hQ τ hR
  | some p =>
    cases hb : sp_lit (cN w.1) y with
    | none =>
      rw [ha, hb] at hQ
      simp (disch := first | exact ev_ok_i _ | exact ev_ok_r _ | exact ev_ok_n | omega | assumption | decide) only [e_Dp_alike_9, e_Dp_alike_12, e_Dp_alike_13, ev_rm_n, ev_rm_i, ev_rm_r, ev_rm_l, ev_ok_n, ev_ok_i, ev_ok_r, Option.toList_some, Option.toList_none, List.cons_append, List.nil_append, true_and, and_true, true_or, or_true, reduceIte, Nat.reduceEqDiff, if_true, if_false, not_true_eq_false, if_false]
      exact hQ τ hR
    | some q =>
      rw [ha, hb] at hQ
      dsimp only at hQ
      obtain ⟨rfl, hp⟩ := sp_lit_s ha
      obtain ⟨rfl, hq⟩ := sp_lit_s hb
      have hI := hR.1.2.1
      have cc : nI (cI w.1) ≤ 14 ↔ cI w.1 ≤ 14 := nI_leI (b := 14) (by omega) (by decide)
      simp (disch := first | exact ev_ok_i _ | exact ev_ok_r _ | exact ev_ok_n | omega | assumption | decide) only [e_Dp_alike_9, e_Dp_alike_14, e_Dp_alike_15, e_Dp_alike_18, e_Dp_alike_21, e_Dp_alike_23, ev_rm_n, ev_rm_i, ev_rm_r, ev_rm_l, ev_ok_n, ev_ok_i, ev_ok_r, Option.toList_some, Option.toList_none, List.cons_append, List.nil_append, true_and, and_true, true_or, or_true, reduceIte, Nat.reduceEqDiff, if_true, if_false, cg_Dp_rc, cg_Dp_text, cg_Dp_circuit, cg_Dp_reader, cg_Dp_current, cg_Dp_working, cg_Dp_saturator, cg_Dp_table, cg_Te_rc, cg_Te_bytes, cg_Te_length, cp_Te_length, cg_Ci_rc, cg_Ci_kinds, cg_Ci_firsts, cg_Ci_seconds, cg_Ci_inputVariables, cg_Ci_names, cg_Ci_nameLengths, cg_Ci_size, cp_Ci_size, cg_Ci_inputs, cp_Ci_inputs, cg_Re_rc, cg_Re_text, cg_Re_circuit, cg_Re_token, cp_Re_token, cg_Re_start, cp_Re_start, cg_Re_next, cp_Re_next, cg_Re_open, cp_Re_open, cg_Re_fault, cp_Re_fault, cg_Re_faultPlace, cp_Re_faultPlace, cg_Sa_rc, cg_Sa_circuit, cg_Sa_before, cg_Sa_trueBranches, cg_Sa_falseBranches, cg_Sa_tallies, cg_Sa_mostSteps, cp_Sa_mostSteps, cg_Sa_spent, cp_Sa_spent, cg_Ta_rc, cg_Ta_circuit, cg_Ta_words, cr_kinds, cw_kinds, cr_firsts, cw_firsts, cr_seconds, cw_seconds, cr_inputVariables, cw_inputVariables, cr_nameLengths, cw_nameLengths, cr_tallies, cw_tallies, cr_bytes, cw_bytes, cr_words, cw_words, cl_tallies, cr_names, cr_trueB, cr_falseB, cr_name, cw_name, cq_rc, cq_st, cq_size, cq_classes, cq_contradiction, cqp_size, cqp_classes, cqp_contradiction, cq_rd, cq_wr, cq_copy, cl_s_1, cl_s_2, cl_ar_1, cl_ar_2, cl_w_1, cl_w_2, i10, not_false_eq_true, if_true, c_ciInputs, hI, cc]
      by_cases c14 : 14 < cI w.1
      · rw [if_pos c14] at hQ
        have c' : ¬ cI w.1 ≤ 14 := by omega
        simp (disch := first | exact ev_ok_i _ | exact ev_ok_r _ | exact ev_ok_n | omega | assumption | decide) only [c', if_false, e_Dp_alike_26, e_Dp_alike_28, ev_rm_n, ev_rm_i, ev_rm_r, ev_rm_l, ev_ok_n, ev_ok_i, ev_ok_r, Option.toList_some, Option.toList_none, List.cons_append, List.nil_append, true_and, and_true, true_or, or_true, reduceIte, Nat.reduceEqDiff, if_true, if_false]
        exact hQ τ hR
      · rw [if_neg c14] at hQ
        have c' : cI w.1 ≤ 14 := by omega
        have hpw : 2 ^ cI w.1 ≤ 2 ^ 14 := Nat.pow_le_pow_right (by decide) c'
        simp (disch := first | exact ev_ok_i _ | exact ev_ok_r _ | exact ev_ok_n | omega | assumption | decide) only [c', if_true, e_Dp_alike_29, e_Dp_alike_30, e_Dp_alike_33, e_Dp_alike_34, ev_rm_n, ev_rm_i, ev_rm_r, ev_rm_l, ev_ok_n, ev_ok_i, ev_ok_r, Option.toList_some, Option.toList_none, List.cons_append, List.nil_append, true_and, and_true, true_or, or_true, reduceIte, Nat.reduceEqDiff, if_true, if_false, cg_Dp_rc, cg_Dp_text, cg_Dp_circuit, cg_Dp_reader, cg_Dp_current, cg_Dp_working, cg_Dp_saturator, cg_Dp_table, cg_Te_rc, cg_Te_bytes, cg_Te_length, cp_Te_length, cg_Ci_rc, cg_Ci_kinds, cg_Ci_firsts, cg_Ci_seconds, cg_Ci_inputVariables, cg_Ci_names, cg_Ci_nameLengths, cg_Ci_size, cp_Ci_size, cg_Ci_inputs, cp_Ci_inputs, cg_Re_rc, cg_Re_text, cg_Re_circuit, cg_Re_token, cp_Re_token, cg_Re_start, cp_Re_start, cg_Re_next, cp_Re_next, cg_Re_open, cp_Re_open, cg_Re_fault, cp_Re_fault, cg_Re_faultPlace, cp_Re_faultPlace, cg_Sa_rc, cg_Sa_circuit, cg_Sa_before, cg_Sa_trueBranches, cg_Sa_falseBranches, cg_Sa_tallies, cg_Sa_mostSteps, cp_Sa_mostSteps, cg_Sa_spent, cp_Sa_spent, cg_Ta_rc, cg_Ta_circuit, cg_Ta_words, cr_kinds, cw_kinds, cr_firsts, cw_firsts, cr_seconds, cw_seconds, cr_inputVariables, cw_inputVariables, cr_nameLengths, cw_nameLengths, cr_tallies, cw_tallies, cr_bytes, cw_bytes, cr_words, cw_words, cl_tallies, cr_names, cr_trueB, cr_falseB, cr_name, cw_name, cq_rc, cq_st, cq_size, cq_classes, cq_contradiction, cqp_size, cqp_classes, cqp_contradiction, cq_rd, cq_wr, cq_copy, cl_s_1, cl_s_2, cl_ar_1, cl_ar_2, cl_w_1, cl_w_2]
        rw [e_Dp_alike_35]
        simp (disch := first | exact ev_ok_i _ | exact ev_ok_r _ | exact ev_ok_n | omega | assumption | decide) only [ev_rm_n, ev_rm_i, ev_rm_r, ev_rm_l, ev_ok_n, ev_ok_i, ev_ok_r, Option.toList_some, Option.toList_none, List.cons_append, List.nil_append, true_and, and_true, true_or, or_true, reduceIte, Nat.reduceEqDiff, if_true, if_false, cg_Dp_rc, cg_Dp_text, cg_Dp_circuit, cg_Dp_reader, cg_Dp_current, cg_Dp_working, cg_Dp_saturator, cg_Dp_table, cg_Te_rc, cg_Te_bytes, cg_Te_length, cp_Te_length, cg_Ci_rc, cg_Ci_kinds, cg_Ci_firsts, cg_Ci_seconds, cg_Ci_inputVariables, cg_Ci_names, cg_Ci_nameLengths, cg_Ci_size, cp_Ci_size, cg_Ci_inputs, cp_Ci_inputs, cg_Re_rc, cg_Re_text, cg_Re_circuit, cg_Re_token, cp_Re_token, cg_Re_start, cp_Re_start, cg_Re_next, cp_Re_next, cg_Re_open, cp_Re_open, cg_Re_fault, cp_Re_fault, cg_Re_faultPlace, cp_Re_faultPlace, cg_Sa_rc, cg_Sa_circuit, cg_Sa_before, cg_Sa_trueBranches, cg_Sa_falseBranches, cg_Sa_tallies, cg_Sa_mostSteps, cp_Sa_mostSteps, cg_Sa_spent, cp_Sa_spent, cg_Ta_rc, cg_Ta_circuit, cg_Ta_words, cr_kinds, cw_kinds, cr_firsts, cw_firsts, cr_seconds, cw_seconds, cr_inputVariables, cw_inputVariables, cr_nameLengths, cw_nameLengths, cr_tallies, cw_tallies, cr_bytes, cw_bytes, cr_words, cw_words, cl_tallies, cr_names, cr_trueB, cr_falseB, cr_name, cw_name, cq_rc, cq_st, cq_size, cq_classes, cq_contradiction, cqp_size, cqp_classes, cqp_contradiction, cq_rd, cq_wr, cq_copy, cl_s_1, cl_s_2, cl_ar_1, cl_ar_2, cl_w_1, cl_w_2]
        refine c_taLD hX hR.1 hw.1 hp hq c' (fun f => ?_)
        have hq2 := hQ (τ.1, f) hR
        cases hf : sp_fd (fun n => sp_vl w.1 n p != sp_vl w.1 n q) 0 (2 ^ cI w.1) with
        | none =>
          rw [hf] at hq2
          simp (disch := first | exact ev_ok_i _ | exact ev_ok_r _ | exact ev_ok_n | omega | assumption | decide) only [e_Dp_alike_38, e_Dp_alike_40, e_Dp_alike_43, e_Dp_alike_44, e_Dp_alike_47, e_Dp_alike_48, ev_rm_n, ev_rm_i, ev_rm_r, ev_rm_l, ev_ok_n, ev_ok_i, ev_ok_r, Option.toList_some, Option.toList_none, List.cons_append, List.nil_append, true_and, and_true, true_or, or_true, reduceIte, Nat.reduceEqDiff, if_true, if_false, not_true_eq_false, if_false]
          exact hq2
        | some r =>
          rw [hf] at hq2
          have hr := sp_fd_lt _ _ _ hf
          have hne : ¬ nI r = -7 := fun z => by
            have h7 : (-7 : Int32) < 0 := by decide
            rw [← z] at h7
            exact nI_pos (by omega) h7
          simp (disch := first | exact ev_ok_i _ | exact ev_ok_r _ | exact ev_ok_n | omega | assumption | decide) only [e_Dp_alike_38, e_Dp_alike_40, e_Dp_alike_43, e_Dp_alike_44, e_Dp_alike_47, e_Dp_alike_48, ev_rm_n, ev_rm_i, ev_rm_r, ev_rm_l, ev_ok_n, ev_ok_i, ev_ok_r, Option.toList_some, Option.toList_none, List.cons_append, List.nil_append, true_and, and_true, true_or, or_true, reduceIte, Nat.reduceEqDiff, if_true, if_false, hne, not_false_eq_true, if_true]
          exact hq2
end TA2
