/-! THE CLASS's text: bytes without signs; words of the program -/
def cs_b (c : Int32) : Prop := ∃ q : Nat, q < 256 ∧ c &&& 255 = nI q ∧ (q < 128 → c = nI q) ∧ (128 ≤ q → c < 0)
theorem cs_b_eq {c : Int32} (h : cs_b c) {v : Nat} (hv : v < 128) : c &&& 255 = nI v ↔ c = nI v := by
  obtain ⟨q, h1, h2, h3, h4⟩ := h
  rw [h2]
  by_cases hq : q < 128
  · rw [h3 hq]
  · have h5 := h4 (by omega)
    refine ⟨fun z => absurd ((nI_eq (by omega) (by omega)).mp z) (by omega), fun z => ?_⟩
    rw [z] at h5
    exact absurd h5 (nI_pos (by omega))
theorem cs_b_rg {c : Int32} (h : cs_b c) {lo hi : Nat} (hl : lo < 128) (hh : hi < 128) : (nI lo ≤ c &&& 255 ∧ c &&& 255 ≤ nI hi) ↔ (nI lo ≤ c ∧ c ≤ nI hi) := by
  obtain ⟨q, h1, h2, h3, h4⟩ := h
  rw [h2]
  by_cases hq : q < 128
  · rw [h3 hq]
  · have h5 := h4 (by omega)
    refine ⟨fun z => absurd ((nI_leI (by omega) (by omega)).mp z.2) (by omega), fun z => ?_⟩
    have h6 : (0 : Int32) ≤ nI lo := nI_pos' (by omega)
    exact absurd h5 (Int32.not_lt.mpr (Int32.le_trans h6 z.1))
theorem cs_b_8 (z : Int32) : cs_b z.toInt8.toInt32 := by
  generalize hc : z.toInt8.toInt32 = c
  have hb : -128 ≤ c.toInt ∧ c.toInt ≤ 127 := by
    rw [← hc, Int8.toInt_toInt32]
    have h1 := Int8.le_toInt z.toInt8
    have h2 := Int8.toInt_lt z.toInt8
    omega
  refine ⟨c.toBitVec.toNat % 256, Nat.mod_lt _ (by decide), pk_and c 8 (by decide), fun h => ?_, fun h => ?_⟩
  · by_cases hn : c < 0
    · exfalso
      have h0 : c.toInt < 0 := by have := Int32.lt_iff_toInt_lt.mp hn; simpa using this
      have e : c.toInt = (c.toBitVec.toNat : Int) - 4294967296 := by
        have := BitVec.toInt_eq_toNat_cond c.toBitVec
        have e2 : c.toInt = c.toBitVec.toInt := rfl
        rw [e2] at h0 ⊢
        rw [this] at h0 ⊢
        split at h0
        · omega
        · rename_i hh; rw [if_neg hh]; rfl
      omega
    · obtain ⟨j, hj, rfl⟩ := nI_of hn
      have e : (nI j).toInt = (j : Int) := nI_toInt hj
      have e2 : (nI j).toBitVec.toNat = j := by
        show (BitVec.ofNat 32 j).toNat = j
        rw [BitVec.toNat_ofNat]
        omega
      rw [e2]
      congr 1
      omega
  · by_cases hn : c < 0
    · exact hn
    · exfalso
      obtain ⟨j, hj, rfl⟩ := nI_of hn
      have e : (nI j).toInt = (j : Int) := nI_toInt hj
      have e2 : (nI j).toBitVec.toNat = j := by
        show (BitVec.ofNat 32 j).toNat = j
        rw [BitVec.toNat_ofNat]
        omega
      rw [e2] at h
      omega
def cl_xR (τ : cl_S) (x : sp_X) : Prop := τ.1 1 1 = nI x.2 ∧ (∀ j, j < x.2 → τ.1 2 j = x.1 j) ∧ ∀ j, j < x.2 → cs_b (x.1 j)
theorem cl_xR_ke {S : Nat → Prop} {τ τ2 : cl_S} {x : sp_X} (hk : cl_ke S τ τ2) (h1 : ¬ S 1) (h2 : ¬ S 2) (h : cl_xR τ x) : cl_xR τ2 x := by
  unfold cl_xR
  rw [hk.1 1 h1, hk.1 2 h2]
  exact h
/-- the class's byte at a place -/
def cs_bt (x : sp_X) (k : Nat) : Int32 := if k < x.2 then x.1 k &&& 255 else -1
theorem cs_m1 {v : Nat} (hv : v < 2 ^ 31) : ¬ (-1 : Int32) = nI v := fun z => by
  have h : (-1 : Int32) < 0 := by decide
  rw [z] at h
  exact nI_pos hv h
theorem cs_bt_eq {x : sp_X} (hb : ∀ j, j < x.2 → cs_b (x.1 j)) {k v : Nat} (hv : v < 128) : cs_bt x k = nI v ↔ sp_sg x k = nI v := by
  unfold cs_bt sp_sg
  by_cases h : k < x.2
  · rw [if_pos h, if_pos h]
    exact cs_b_eq (hb k h) hv
  · rw [if_neg h, if_neg h]
theorem cs_bt_in {x : sp_X} (hb : ∀ j, j < x.2 → cs_b (x.1 j)) {k v : Nat} (hk : k < x.2) (hv : v < 128) : cs_bt x k = nI v ↔ x.1 k = nI v := by
  rw [cs_bt_eq hb hv]
  unfold sp_sg
  rw [if_pos hk]
theorem cs_bt_m1 {x : sp_X} (hb : ∀ j, j < x.2 → cs_b (x.1 j)) {k : Nat} : cs_bt x k = -1 ↔ ¬ k < x.2 := by
  unfold cs_bt
  by_cases h : k < x.2
  · rw [if_pos h]
    obtain ⟨q, h1, h2, -⟩ := hb k h
    rw [h2]
    exact ⟨fun z => absurd z.symm (cs_m1 (by omega)), fun z => absurd h z⟩
  · rw [if_neg h]
    exact ⟨fun _ => h, fun _ => rfl⟩
theorem cs_bt_small {x : sp_X} (hb : ∀ j, j < x.2 → cs_b (x.1 j)) {k : Nat} (hk : k < x.2) : sp_small (cs_bt x k) ↔ sp_small (x.1 k) := by
  unfold cs_bt
  rw [if_pos hk]
  exact cs_b_rg (lo := 97) (hi := 122) (hb k hk) (by decide) (by decide)
theorem cs_bt_digit {x : sp_X} (hb : ∀ j, j < x.2 → cs_b (x.1 j)) {k : Nat} (hk : k < x.2) : sp_digit (cs_bt x k) ↔ sp_digit (x.1 k) := by
  unfold cs_bt
  rw [if_pos hk]
  exact cs_b_rg (lo := 48) (hi := 57) (hb k hk) (by decide) (by decide)
theorem cs_bt_blank {x : sp_X} (hb : ∀ j, j < x.2 → cs_b (x.1 j)) {k : Nat} (hk : k < x.2) : sp_blank (cs_bt x k) ↔ sp_blank (x.1 k) := by
  have e9 := cs_bt_in hb hk (v := 9) (by decide)
  have e10 := cs_bt_in hb hk (v := 10) (by decide)
  have e13 := cs_bt_in hb hk (v := 13) (by decide)
  have e32 := cs_bt_in hb hk (v := 32) (by decide)
  exact or_congr e9 (or_congr e10 (or_congr e13 e32))
/-- the signs s stand at p -/
def cs_ha (x : sp_X) : List Nat → Nat → Bool
  | [], _ => true
  | c :: r, p => decide (cs_bt x p = nI c) && cs_ha x r (p + 1)
/-- the text k of the program is s; it lies outside the class's cells -/
def cl_tx (X : xo_X) (B : Nat) (g : xo_G) (k : Nat) (s : List Nat) : Prop := ((X.2.2.2.2.2 k < B ∨ B + 63 ≤ X.2.2.2.2.2 k) ∧ g.1 (X.2.2.2.2.2 k) = none) ∧ ∃ (F : Nat → Value) (b : Nat), X.2.2.2.1 (X.2.2.2.2.2 k) = some (8, F) ∧ F 0 = .ref b ∧ F 1 = .int 0 ∧ ((b < B ∨ B + 63 ≤ b) ∧ g.1 b = none ∧ X.1 b = none) ∧ X.2.1 b = some (s.length, fun i => nI (s.getD i 0)) ∧ (s.length < 100 ∧ ∀ c ∈ s, c < 128)
def cl_TX (X : xo_X) (B : Nat) (g : xo_G) : Prop := (X.2.2.2.2.1 1 = .int 1 ∧ (X.2.2.2.2.1 2 = .null ∨ ∃ a, X.2.2.2.2.1 2 = .ref a)) ∧ cl_tx X B g 0 [116, 114, 117, 101] ∧ cl_tx X B g 1 [102, 97, 108, 115, 101] ∧ cl_tx X B g 2 [45, 62] ∧ cl_tx X B g 3 [60, 45, 62]
theorem cl_out {B a : Nat} {τ : cl_S} {g : xo_G} (h : a < B ∨ B + 63 ≤ a) (hg : g.1 a = none) : (cl_put B τ g).1 a = none := by
  show (if B ≤ a ∧ a < B + 63 then some (cl_cell B τ (a - B)) else g.1 a) = none
  rw [if_neg (by omega), hg]
section CR1
variable {X : xo_X} {d B : Nat} {τ : cl_S} {g : xo_G} {Q : Option Value → xo_G → Prop} {x : sp_X}
theorem c_byteAt {k : Nat} (hx : cl_xR τ x) (hn : x.2 ≤ 3000) (hk : k < 2 ^ 31) : ev_C X d m_Te_byteAt [.ref (B + 1), .int (nI k)] (cl_put B τ g) Q ↔ Q (some (.int (cs_bt x k))) (cl_put B τ g) := by
  show ev_R X d m_Te_byteAt 0 [some (.ref (B + 1)), some (.int (nI k))] [] (cl_put B τ g) Q ↔ _
  have h0 : ¬ nI k < 0 := nI_pos hk
  unfold cs_bt
  simp (disch := first | exact ev_ok_i _ | exact ev_ok_r _ | exact ev_ok_n | omega | assumption | decide) only [e_Te_byteAt_0, e_Te_byteAt_1, e_Te_byteAt_4, e_Te_byteAt_5, e_Te_byteAt_6, e_Te_byteAt_9, e_Te_byteAt_12, e_Te_byteAt_13, e_Te_byteAt_16, e_Te_byteAt_17, e_Te_byteAt_18, e_Te_byteAt_21, e_Te_byteAt_22, e_Te_byteAt_25, e_Te_byteAt_26, ev_rm_n, ev_rm_i, ev_rm_r, ev_rm_l, ev_ok_n, ev_ok_i, ev_ok_r, Option.toList_some, Option.toList_none, List.cons_append, List.nil_append, true_and, and_true, true_or, or_true, reduceIte, Nat.reduceEqDiff, if_true, if_false, cg_Dp_rc, cg_Dp_text, cg_Dp_circuit, cg_Dp_reader, cg_Dp_current, cg_Dp_working, cg_Dp_saturator, cg_Dp_table, cg_Te_rc, cg_Te_bytes, cg_Te_length, cp_Te_length, cg_Ci_rc, cg_Ci_kinds, cg_Ci_firsts, cg_Ci_seconds, cg_Ci_inputVariables, cg_Ci_names, cg_Ci_nameLengths, cg_Ci_size, cp_Ci_size, cg_Ci_inputs, cp_Ci_inputs, cg_Re_rc, cg_Re_text, cg_Re_circuit, cg_Re_token, cp_Re_token, cg_Re_start, cp_Re_start, cg_Re_next, cp_Re_next, cg_Re_open, cp_Re_open, cg_Re_fault, cp_Re_fault, cg_Re_faultPlace, cp_Re_faultPlace, cg_Sa_rc, cg_Sa_circuit, cg_Sa_before, cg_Sa_trueBranches, cg_Sa_falseBranches, cg_Sa_tallies, cg_Sa_mostSteps, cp_Sa_mostSteps, cg_Sa_spent, cp_Sa_spent, cg_Ta_rc, cg_Ta_circuit, cg_Ta_words, cr_kinds, cw_kinds, cr_firsts, cw_firsts, cr_seconds, cw_seconds, cr_inputVariables, cw_inputVariables, cr_nameLengths, cw_nameLengths, cr_tallies, cw_tallies, cr_bytes, cw_bytes, cr_words, cw_words, cl_tallies, cr_names, cr_trueB, cr_falseB, cr_name, cw_name, cq_rc, cq_st, cq_size, cq_classes, cq_contradiction, cqp_size, cqp_classes, cqp_contradiction, cq_rd, cq_wr, cq_copy, cl_s_1, cl_s_2, cl_ar_1, cl_ar_2, cl_w_1, cl_w_2, h0, hx.1, nI_leI]
  by_cases h : k < x.2
  · have h1 : ¬ x.2 ≤ k := by omega
    have h2 := hx.2.1 k h
    simp (disch := first | exact ev_ok_i _ | exact ev_ok_r _ | exact ev_ok_n | omega | assumption | decide) only [h, h1, if_true, if_false, xo_in, nI_clamp, h2, true_and]
  · have h1 : x.2 ≤ k := by omega
    simp only [h, h1, if_true, if_false]
theorem c_reBlank (c : Int32) : ev_C X d m_Re_isBlank [.int c] g Q ↔ Q (some (.int (zi (sp_blank c)))) g := by
  show ev_R X d m_Re_isBlank 0 [some (.int c)] [] g Q ↔ _
  simp (disch := first | exact ev_ok_i _ | exact ev_ok_r _ | exact ev_ok_n | omega | assumption | decide) only [e_Re_isBlank_0, e_Re_isBlank_1, e_Re_isBlank_3, e_Re_isBlank_6, e_Re_isBlank_7, e_Re_isBlank_9, e_Re_isBlank_12, e_Re_isBlank_13, e_Re_isBlank_15, e_Re_isBlank_18, e_Re_isBlank_19, e_Re_isBlank_21, e_Re_isBlank_24, e_Re_isBlank_25, e_Re_isBlank_28, e_Re_isBlank_29, ev_rm_n, ev_rm_i, ev_rm_r, ev_rm_l, ev_ok_n, ev_ok_i, ev_ok_r, Option.toList_some, Option.toList_none, List.cons_append, List.nil_append, true_and, and_true, true_or, or_true, reduceIte, Nat.reduceEqDiff, if_true, if_false]
  unfold zi sp_blank
  by_cases h1 : c = 9
  · simp [h1]
  · by_cases h2 : c = 10
    · simp [h2]
    · by_cases h3 : c = 13
      · simp [h3]
      · by_cases h4 : c = 32 <;> simp [h1, h2, h3, h4]
theorem c_reLetter (c : Int32) : ev_C X d m_Re_isLetter [.int c] g Q ↔ Q (some (.int (zi (sp_small c)))) g := by
  show ev_R X d m_Re_isLetter 0 [some (.int c)] [] g Q ↔ _
  simp (disch := first | exact ev_ok_i _ | exact ev_ok_r _ | exact ev_ok_n | omega | assumption | decide) only [e_Re_isLetter_0, e_Re_isLetter_1, e_Re_isLetter_3, e_Re_isLetter_6, e_Re_isLetter_7, e_Re_isLetter_9, e_Re_isLetter_12, e_Re_isLetter_13, e_Re_isLetter_16, e_Re_isLetter_17, ev_rm_n, ev_rm_i, ev_rm_r, ev_rm_l, ev_ok_n, ev_ok_i, ev_ok_r, Option.toList_some, Option.toList_none, List.cons_append, List.nil_append, true_and, and_true, true_or, or_true, reduceIte, Nat.reduceEqDiff, if_true, if_false]
  unfold zi sp_small
  by_cases h1 : c < 97 <;> by_cases h2 : 122 < c <;> simp [h1, h2, Int32.not_lt.mp, Int32.not_le.mpr, Int32.not_lt.symm]
theorem c_reLD (c : Int32) : ev_C X (d + 1) m_Re_isLetterOrDigit [.int c] g Q ↔ Q (some (.int (zi (sp_small c ∨ sp_digit c)))) g := by
  show ev_R X (d + 1) m_Re_isLetterOrDigit 0 [some (.int c)] [] g Q ↔ _
  simp (disch := first | exact ev_ok_i _ | exact ev_ok_r _ | exact ev_ok_n | omega | assumption | decide) only [e_Re_isLetterOrDigit_0, e_Re_isLetterOrDigit_1, e_Re_isLetterOrDigit_3, e_Re_isLetterOrDigit_6, e_Re_isLetterOrDigit_7, e_Re_isLetterOrDigit_9, e_Re_isLetterOrDigit_12, e_Re_isLetterOrDigit_13, e_Re_isLetterOrDigit_15, e_Re_isLetterOrDigit_18, e_Re_isLetterOrDigit_19, e_Re_isLetterOrDigit_21, e_Re_isLetterOrDigit_24, e_Re_isLetterOrDigit_25, e_Re_isLetterOrDigit_28, e_Re_isLetterOrDigit_29, ev_rm_n, ev_rm_i, ev_rm_r, ev_rm_l, ev_ok_n, ev_ok_i, ev_ok_r, Option.toList_some, Option.toList_none, List.cons_append, List.nil_append, true_and, and_true, true_or, or_true, reduceIte, Nat.reduceEqDiff, if_true, if_false]
  unfold zi sp_small sp_digit
  by_cases a1 : c < 97 <;> by_cases a2 : 122 < c <;> by_cases h1 : c < 48 <;> by_cases h2 : 57 < c <;> simp [a1, a2, h1, h2, Int32.not_lt.mp, Int32.not_le.mpr, Int32.not_lt.symm]
theorem c_stLength {k : Nat} {s : List Nat} (h : X.2.2.2.2.1 1 = .int 1) (ht : cl_tx X B g k s) : ev_C X (d + 1) m_St_length [.ref (X.2.2.2.2.2 k)] (cl_put B τ g) Q ↔ Q (some (.int (nI s.length))) (cl_put B τ g) := by
  show ev_R X (d + 1) m_St_length 0 [some (.ref (X.2.2.2.2.2 k))] [] (cl_put B τ g) Q ↔ _
  obtain ⟨⟨o1, o2⟩, F, b, f1, f2, f3, ⟨p1, p2, p3⟩, p4, p5, p6⟩ := ht
  have n1 := cl_out (τ := τ) o1 o2
  have n2 := cl_out (τ := τ) p1 p2
  have i10 : ¬ (1 : Int32) = 0 := by decide
  have sg : ∀ (j : Nat) (K : Value → Prop), ev_sg X (cl_put B τ g) (X.2.2.2.2.2 k) j K ↔ K (F j) := fun j K => by
    unfold ev_sg
    rw [n1, f1]
  have al : ∀ (K : Int32 → Prop), ev_al X (cl_put B τ g) b K ↔ K (nI s.length) := fun K => by
    unfold ev_al xo_al
    rw [n2]
    simp only [p3, p4]
    rfl
  have rc : ∀ (P : Prop), ev_rc X (cl_put B τ g) (X.2.2.2.2.2 k) 8 P ↔ P := fun P => by
    unfold ev_rc xo_ob
    rw [n1]
    simp only [f1]
    simp
  have s0 : nI s.length >>> ((0 : Int32) &&& 31) = nI s.length := by
    rw [pk_shrN (by omega) _ 0 (by decide)]
    simp
  have cd : ∀ (K : Option Value → xo_G → Prop), ev_C X d m_St_coder [.ref (X.2.2.2.2.2 k)] (cl_put B τ g) K ↔ K (some (.int 0)) (cl_put B τ g) := fun K => by
    show ev_R X d m_St_coder 0 [some (.ref (X.2.2.2.2.2 k))] [] (cl_put B τ g) K ↔ _
    have b0 : (Int32.toInt8 0).toInt32 = 0 := by decide
    rw [e_St_coder_0, h]
    simp (disch := first | exact ev_ok_i _ | exact ev_ok_r _ | exact ev_ok_n | omega | assumption | decide) only [e_St_coder_3, e_St_coder_6, e_St_coder_7, e_St_coder_10, e_St_coder_13, e_St_coder_14, ev_rm_n, ev_rm_i, ev_rm_r, ev_rm_l, ev_ok_n, ev_ok_i, ev_ok_r, Option.toList_some, Option.toList_none, List.cons_append, List.nil_append, true_and, and_true, true_or, or_true, reduceIte, Nat.reduceEqDiff, if_true, if_false, i10, sg, f3, b0]
  simp (disch := first | exact ev_ok_i _ | exact ev_ok_r _ | exact ev_ok_n | omega | assumption | decide) only [e_St_length_0, e_St_length_1, e_St_length_4, e_St_length_5, e_St_length_6, e_St_length_9, e_St_length_10, ev_rm_n, ev_rm_i, ev_rm_r, ev_rm_l, ev_ok_n, ev_ok_i, ev_ok_r, Option.toList_some, Option.toList_none, List.cons_append, List.nil_append, true_and, and_true, true_or, or_true, reduceIte, Nat.reduceEqDiff, if_true, if_false, sg, f2, al, rc, cd, s0]
theorem e_St_checkIndex_5n {X : xo_X} {d : Nat} {L : xo_L} {st : List Value} {g : xo_G} {Q : Option Value → xo_G → Prop} {a0 : Int32} {a1 : Int32} : ev_R X (d + 1) m_St_checkIndex 5 L (.null :: .int a1 :: .int a0 :: st) g Q ↔ ev_rm st 8 ∧ ev_C X d m_Pr_checkIndex [.int a0, .int a1, .null] g (fun r g1 => ev_R X (d + 1) m_St_checkIndex 8 L (r.toList ++ st) g1 Q) := ev_stat (kc_St_checkIndex (5, .invokestatic 1059, 3) (List.mem_of_getElem? (i := 3) rfl)) (by decide +kernel) rfl rfl rfl rfl (Nat.le_of_ble_eq_true rfl)
theorem c_stCharAt {k i : Nat} {s : List Nat} (h : X.2.2.2.2.1 1 = .int 1) (h2 : X.2.2.2.2.1 2 = .null ∨ ∃ a, X.2.2.2.2.1 2 = .ref a) (ht : cl_tx X B g k s) (hi : i < s.length) : ev_C X (d + 3) m_St_charAt [.ref (X.2.2.2.2.2 k), .int (nI i)] (cl_put B τ g) Q ↔ Q (some (.int (nI (s.getD i 0)))) (cl_put B τ g) := by
  show ev_R X (d + 3) m_St_charAt 0 [some (.ref (X.2.2.2.2.2 k)), some (.int (nI i))] [] (cl_put B τ g) Q ↔ _
  obtain ⟨⟨o1, o2⟩, F, b, f1, f2, f3, ⟨p1, p2, p3⟩, p4, p5, p6⟩ := ht
  have n1 := cl_out (τ := τ) o1 o2
  have n2 := cl_out (τ := τ) p1 p2
  have i10 : ¬ (1 : Int32) = 0 := by decide
  have sg : ∀ (j : Nat) (K : Value → Prop), ev_sg X (cl_put B τ g) (X.2.2.2.2.2 k) j K ↔ K (F j) := fun j K => by
    unfold ev_sg
    rw [n1, f1]
  have al : ∀ (K : Int32 → Prop), ev_al X (cl_put B τ g) b K ↔ K (nI s.length) := fun K => by
    unfold ev_al xo_al
    rw [n2]
    simp only [p3, p4]
    rfl
  have rc : ∀ (P : Prop), ev_rc X (cl_put B τ g) (X.2.2.2.2.2 k) 8 P ↔ P := fun P => by
    unfold ev_rc xo_ob
    rw [n1]
    simp only [f1]
    simp
  have ba : ∀ (K : Int32 → Prop), ev_ba X (cl_put B τ g) b (nI i) K ↔ K (nI (s.getD i 0)) := fun K => by
    unfold ev_ba xo_rb
    rw [n2]
    simp only [p4]
    rw [xo_in hi (by omega), nI_clamp (by omega)]
    simp
  have l1 : ∀ (K : Option Value → xo_G → Prop), ev_C X (d + 2) m_St_isLatin1 [.ref (X.2.2.2.2.2 k)] (cl_put B τ g) K ↔ K (some (.int 1)) (cl_put B τ g) := fun K => by
    show ev_R X (d + 2) m_St_isLatin1 0 [some (.ref (X.2.2.2.2.2 k))] [] (cl_put B τ g) K ↔ _
    rw [e_St_isLatin1_0, h]
    simp (disch := first | exact ev_ok_i _ | exact ev_ok_r _ | exact ev_ok_n | omega | assumption | decide) only [e_St_isLatin1_3, e_St_isLatin1_6, e_St_isLatin1_7, e_St_isLatin1_10, e_St_isLatin1_13, e_St_isLatin1_14, e_St_isLatin1_17, e_St_isLatin1_18, ev_rm_n, ev_rm_i, ev_rm_r, ev_rm_l, ev_ok_n, ev_ok_i, ev_ok_r, Option.toList_some, Option.toList_none, List.cons_append, List.nil_append, true_and, and_true, true_or, or_true, reduceIte, Nat.reduceEqDiff, if_true, if_false, i10, sg, f3, not_true_eq_false]
  have c0 : ¬ nI i < 0 := nI_pos (by omega)
  have c1 : nI i < nI s.length := nI_lt hi (by omega)
  have hc : s.getD i 0 < 128 := by
    have e : s.getD i 0 = s[i] := by simp [List.getD, hi]
    rw [e]
    exact p6 _ (List.getElem_mem hi)
  have m1 : nI (s.getD i 0) &&& 255 = nI (s.getD i 0) := by
    rw [pk_andN (by omega) 8 (by decide)]
    congr 1
    omega
  have ck : ∀ (K : Option Value → xo_G → Prop), ev_C X (d + 1) m_St_checkIndex [.int (nI i), .int (nI s.length)] (cl_put B τ g) K ↔ K none (cl_put B τ g) := fun K => by
    show ev_R X (d + 1) m_St_checkIndex 0 [some (.int (nI i)), some (.int (nI s.length))] [] (cl_put B τ g) K ↔ _
    simp (disch := first | exact ev_ok_i _ | exact ev_ok_r _ | exact ev_ok_n | omega | assumption | decide) only [e_St_checkIndex_0, e_St_checkIndex_1, ev_rm_n, ev_rm_i, ev_rm_r, ev_rm_l, ev_ok_n, ev_ok_i, ev_ok_r, Option.toList_some, Option.toList_none, List.cons_append, List.nil_append, true_and, and_true, true_or, or_true, reduceIte, Nat.reduceEqDiff, if_true, if_false]
    rw [e_St_checkIndex_2]
    rcases h2 with h2 | ⟨a, h2⟩
    · rw [h2]
      simp (disch := first | exact ev_ok_i _ | exact ev_ok_r _ | exact ev_ok_n | omega | assumption | decide) only [e_St_checkIndex_5n, ev_rm_n, ev_rm_i, ev_rm_r, ev_rm_l, ev_ok_n, ev_ok_i, ev_ok_r, Option.toList_some, Option.toList_none, List.cons_append, List.nil_append, true_and, and_true, true_or, or_true, reduceIte, Nat.reduceEqDiff, if_true, if_false]
      show ev_R X d m_Pr_checkIndex 0 [some (.int (nI i)), some (.int (nI s.length)), some .null] [] (cl_put B τ g) _ ↔ _
      simp (disch := first | exact ev_ok_i _ | exact ev_ok_r _ | exact ev_ok_n | omega | assumption | decide) only [e_Pr_checkIndex_0, e_Pr_checkIndex_1, e_Pr_checkIndex_4, e_Pr_checkIndex_5, e_Pr_checkIndex_6, e_Pr_checkIndex_9, e_Pr_checkIndex_10, e_Pr_checkIndex_11, e_Pr_checkIndex_16, e_Pr_checkIndex_17, e_St_checkIndex_8, e_St_checkIndex_9, ev_rm_n, ev_rm_i, ev_rm_r, ev_rm_l, ev_ok_n, ev_ok_i, ev_ok_r, Option.toList_some, Option.toList_none, List.cons_append, List.nil_append, true_and, and_true, true_or, or_true, reduceIte, Nat.reduceEqDiff, if_true, if_false, c0, c1]
    · rw [h2]
      simp (disch := first | exact ev_ok_i _ | exact ev_ok_r _ | exact ev_ok_n | omega | assumption | decide) only [e_St_checkIndex_5, ev_rm_n, ev_rm_i, ev_rm_r, ev_rm_l, ev_ok_n, ev_ok_i, ev_ok_r, Option.toList_some, Option.toList_none, List.cons_append, List.nil_append, true_and, and_true, true_or, or_true, reduceIte, Nat.reduceEqDiff, if_true, if_false]
      show ev_R X d m_Pr_checkIndex 0 [some (.int (nI i)), some (.int (nI s.length)), some (.ref a)] [] (cl_put B τ g) _ ↔ _
      simp (disch := first | exact ev_ok_i _ | exact ev_ok_r _ | exact ev_ok_n | omega | assumption | decide) only [e_Pr_checkIndex_0, e_Pr_checkIndex_1, e_Pr_checkIndex_4, e_Pr_checkIndex_5, e_Pr_checkIndex_6, e_Pr_checkIndex_9, e_Pr_checkIndex_10, e_Pr_checkIndex_11, e_Pr_checkIndex_16, e_Pr_checkIndex_17, e_St_checkIndex_8, e_St_checkIndex_9, ev_rm_n, ev_rm_i, ev_rm_r, ev_rm_l, ev_ok_n, ev_ok_i, ev_ok_r, Option.toList_some, Option.toList_none, List.cons_append, List.nil_append, true_and, and_true, true_or, or_true, reduceIte, Nat.reduceEqDiff, if_true, if_false, c0, c1]
  have hchr : ((nI (s.getD i 0)).toUInt32 % 65536).toInt32 = nI (s.getD i 0) := by
    have e2 : (nI (s.getD i 0)).toBitVec.toNat = s.getD i 0 := by
      show (BitVec.ofNat 32 (s.getD i 0)).toNat = _
      rw [BitVec.toNat_ofNat]
      omega
    rw [pk_char, e2, Nat.mod_eq_of_lt (by omega : s.getD i 0 < 65536)]
  have sl : ∀ (K : Option Value → xo_G → Prop), ev_C X (d + 2) m_Sl_charAt [.ref b, .int (nI i)] (cl_put B τ g) K ↔ K (some (.int (nI (s.getD i 0)))) (cl_put B τ g) := fun K => by
    show ev_R X (d + 2) m_Sl_charAt 0 [some (.ref b), some (.int (nI i))] [] (cl_put B τ g) K ↔ _
    simp (disch := first | exact ev_ok_i _ | exact ev_ok_r _ | exact ev_ok_n | omega | assumption | decide) only [e_Sl_charAt_0, e_Sl_charAt_1, e_Sl_charAt_2, e_Sl_charAt_3, e_Sl_charAt_6, e_Sl_charAt_7, e_Sl_charAt_8, e_Sl_charAt_9, e_Sl_charAt_12, e_Sl_charAt_13, e_Sl_charAt_14, ev_rm_n, ev_rm_i, ev_rm_r, ev_rm_l, ev_ok_n, ev_ok_i, ev_ok_r, Option.toList_some, Option.toList_none, List.cons_append, List.nil_append, true_and, and_true, true_or, or_true, reduceIte, Nat.reduceEqDiff, if_true, if_false, al, ck, ba, m1, hchr]
  simp (disch := first | exact ev_ok_i _ | exact ev_ok_r _ | exact ev_ok_n | omega | assumption | decide) only [e_St_charAt_0, e_St_charAt_1, e_St_charAt_4, e_St_charAt_7, e_St_charAt_8, e_St_charAt_11, e_St_charAt_12, e_St_charAt_15, ev_rm_n, ev_rm_i, ev_rm_r, ev_rm_l, ev_ok_n, ev_ok_i, ev_ok_r, Option.toList_some, Option.toList_none, List.cons_append, List.nil_append, true_and, and_true, true_or, or_true, reduceIte, Nat.reduceEqDiff, if_true, if_false, rc, l1, i10, sg, f2, sl, hchr]
theorem c_hasAt_loop {k p : Nat} {s : List Nat} (hX : cl_TX X B g) (ht : cl_tx X B g k s) (hx : cl_xR τ x) (hn : x.2 ≤ 3000) (hp : p < 2 ^ 30) : ∀ (r pre : List Nat), s = pre ++ r → (ev_R X (d + 4) m_Te_hasAt 2 [some (.ref (B + 1)), some (.int (nI p)), some (.ref (X.2.2.2.2.2 k)), some (.int (nI pre.length))] [] (cl_put B τ g) Q ↔ Q (some (.int (if cs_ha x r (p + pre.length) = true then 1 else 0))) (cl_put B τ g)) := by
  have n1 := cl_out (τ := τ) ht.1.1 ht.1.2
  have hl : s.length < 100 := by obtain ⟨-, F, b, f1, f2, f3, q, p4, p5, p6⟩ := ht; exact p5
  have hcs : ∀ c ∈ s, c < 128 := by obtain ⟨-, F, b, f1, f2, f3, q, p4, p5, p6⟩ := ht; exact p6
  have rc : ∀ (P : Prop), ev_rc X (cl_put B τ g) (X.2.2.2.2.2 k) 8 P ↔ P := fun P => by
    obtain ⟨-, F, b, f1, -⟩ := ht
    unfold ev_rc xo_ob
    rw [n1]
    simp only [f1]
    simp
  have len : ∀ (K : Option Value → xo_G → Prop), ev_C X (d + 3) m_St_length [.ref (X.2.2.2.2.2 k)] (cl_put B τ g) K ↔ K (some (.int (nI s.length))) (cl_put B τ g) := fun K => c_stLength (d := d + 2) hX.1.1 ht
  intro r
  induction r with
  | nil =>
    intro pre hs
    have e : pre.length = s.length := by rw [hs]; simp
    have hle : s.length ≤ pre.length := by omega
    simp (disch := first | exact ev_ok_i _ | exact ev_ok_r _ | exact ev_ok_n | omega | assumption | decide) only [e_Te_hasAt_2, e_Te_hasAt_3, e_Te_hasAt_4, e_Te_hasAt_7, e_Te_hasAt_33, e_Te_hasAt_34, ev_rm_n, ev_rm_i, ev_rm_r, ev_rm_l, ev_ok_n, ev_ok_i, ev_ok_r, Option.toList_some, Option.toList_none, List.cons_append, List.nil_append, true_and, and_true, true_or, or_true, reduceIte, Nat.reduceEqDiff, if_true, if_false, rc, len, nI_leI, hle, cs_ha]
  | cons c r ih =>
    intro pre hs
    have e : s.length = pre.length + (r.length + 1) := by rw [hs]; simp
    have hnle : ¬ s.length ≤ pre.length := by omega
    have hgd : s.getD pre.length 0 = c := by rw [hs]; simp [List.getD]
    have hc : c < 128 := hcs c (by rw [hs]; simp)
    have ch : ∀ (K : Option Value → xo_G → Prop), ev_C X (d + 3) m_St_charAt [.ref (X.2.2.2.2.2 k), .int (nI pre.length)] (cl_put B τ g) K ↔ K (some (.int (nI c))) (cl_put B τ g) := fun K => by
      rw [c_stCharAt hX.1.1 hX.1.2 ht (by omega), hgd]
    have bt : ∀ (K : Option Value → xo_G → Prop), ev_C X (d + 3) m_Te_byteAt [.ref (B + 1), .int (nI (p + pre.length))] (cl_put B τ g) K ↔ K (some (.int (cs_bt x (p + pre.length)))) (cl_put B τ g) := fun K => c_byteAt hx hn (by omega)
    have hih := ih (pre ++ [c]) (by rw [hs]; simp)
    have e2 : (pre ++ [c]).length = pre.length + 1 := by simp
    rw [e2] at hih
    simp (disch := first | exact ev_ok_i _ | exact ev_ok_r _ | exact ev_ok_n | omega | assumption | decide) only [e_Te_hasAt_2, e_Te_hasAt_3, e_Te_hasAt_4, e_Te_hasAt_7, e_Te_hasAt_10, e_Te_hasAt_11, e_Te_hasAt_12, e_Te_hasAt_13, e_Te_hasAt_14, e_Te_hasAt_17, e_Te_hasAt_18, e_Te_hasAt_19, e_Te_hasAt_22, e_Te_hasAt_25, e_Te_hasAt_26, e_Te_hasAt_27, e_Te_hasAt_30, ev_rm_n, ev_rm_i, ev_rm_r, ev_rm_l, ev_ok_n, ev_ok_i, ev_ok_r, Option.toList_some, Option.toList_none, List.cons_append, List.nil_append, true_and, and_true, true_or, or_true, reduceIte, Nat.reduceEqDiff, if_true, if_false, cg_Dp_rc, cg_Dp_text, cg_Dp_circuit, cg_Dp_reader, cg_Dp_current, cg_Dp_working, cg_Dp_saturator, cg_Dp_table, cg_Te_rc, cg_Te_bytes, cg_Te_length, cp_Te_length, cg_Ci_rc, cg_Ci_kinds, cg_Ci_firsts, cg_Ci_seconds, cg_Ci_inputVariables, cg_Ci_names, cg_Ci_nameLengths, cg_Ci_size, cp_Ci_size, cg_Ci_inputs, cp_Ci_inputs, cg_Re_rc, cg_Re_text, cg_Re_circuit, cg_Re_token, cp_Re_token, cg_Re_start, cp_Re_start, cg_Re_next, cp_Re_next, cg_Re_open, cp_Re_open, cg_Re_fault, cp_Re_fault, cg_Re_faultPlace, cp_Re_faultPlace, cg_Sa_rc, cg_Sa_circuit, cg_Sa_before, cg_Sa_trueBranches, cg_Sa_falseBranches, cg_Sa_tallies, cg_Sa_mostSteps, cp_Sa_mostSteps, cg_Sa_spent, cp_Sa_spent, cg_Ta_rc, cg_Ta_circuit, cg_Ta_words, cr_kinds, cw_kinds, cr_firsts, cw_firsts, cr_seconds, cw_seconds, cr_inputVariables, cw_inputVariables, cr_nameLengths, cw_nameLengths, cr_tallies, cw_tallies, cr_bytes, cw_bytes, cr_words, cw_words, cl_tallies, cr_names, cr_trueB, cr_falseB, cr_name, cw_name, cq_rc, cq_st, cq_size, cq_classes, cq_contradiction, cqp_size, cqp_classes, cqp_contradiction, cq_rd, cq_wr, cq_copy, cl_s_1, cl_s_2, cl_ar_1, cl_ar_2, cl_w_1, cl_w_2, rc, len, nI_leI, hnle, nI_add, bt, ch, nI_1, hih]
    rw [show cs_ha x (c :: r) (p + pre.length) = (decide (cs_bt x (p + pre.length) = nI c) && cs_ha x r (p + pre.length + 1)) from rfl]
    by_cases z : cs_bt x (p + pre.length) = nI c
    · simp only [z, if_true, decide_true, Bool.true_and]
      rw [Nat.add_assoc]
    · simp [z]
theorem c_hasAt {k p : Nat} {s : List Nat} (hX : cl_TX X B g) (ht : cl_tx X B g k s) (hx : cl_xR τ x) (hn : x.2 ≤ 3000) (hp : p < 2 ^ 30) : ev_C X (d + 4) m_Te_hasAt [.ref (B + 1), .int (nI p), .ref (X.2.2.2.2.2 k)] (cl_put B τ g) Q ↔ Q (some (.int (if cs_ha x s p = true then 1 else 0))) (cl_put B τ g) := by
  show ev_R X (d + 4) m_Te_hasAt 0 [some (.ref (B + 1)), some (.int (nI p)), some (.ref (X.2.2.2.2.2 k)), none] [] (cl_put B τ g) Q ↔ _
  have h := c_hasAt_loop (d := d) (Q := Q) hX ht hx hn hp s [] rfl
  have e0 : (0 : Int32) = nI ([] : List Nat).length := rfl
  simp (disch := first | exact ev_ok_i _ | exact ev_ok_r _ | exact ev_ok_n | omega | assumption | decide) only [e_Te_hasAt_0, e_Te_hasAt_1, ev_rm_n, ev_rm_i, ev_rm_r, ev_rm_l, ev_ok_n, ev_ok_i, ev_ok_r, Option.toList_some, Option.toList_none, List.cons_append, List.nil_append, true_and, and_true, true_or, or_true, reduceIte, Nat.reduceEqDiff, if_true, if_false]
  rw [e0, h]
  rfl
end CR1
