/-! bits of words; the number of zeros behind -/
theorem cs_btl {q t : Nat} (hl : ∀ j, j < t → q.testBit j = false) : ∃ y, q = 2 ^ t * y := by
  induction t generalizing q with
  | zero => exact ⟨q, by simp⟩
  | succ t ih =>
    obtain ⟨y, hy⟩ := ih (fun j hj => hl j (by omega))
    have h := hl t (by omega)
    rw [hy] at h
    have e : (2 ^ t * y + 0).testBit t = false := h
    rw [Nat.testBit_two_pow_mul_add y (Nat.two_pow_pos t), if_neg (by omega), Nat.sub_self] at e
    have h2 : y % 2 = 0 := by
      rcases Nat.mod_two_eq_zero_or_one y with z | z
      · exact z
      · rw [Nat.testBit_zero] at e
        simp [z] at e
    exact ⟨y / 2, by rw [hy, Nat.pow_succ, Nat.mul_assoc]; congr 1; omega⟩
theorem cs_ntn {q t j : Nat} (hb : q.testBit t = true) (hl : ∀ j, j < t → q.testBit j = false) : ((!q.testBit j) && (q - 1).testBit j) = decide (j < t) := by
  obtain ⟨y, hy⟩ := cs_btl hl
  have hy2 : y % 2 = 1 := by
    have e : (2 ^ t * y + 0).testBit t = true := by rw [← hb, hy]; rfl
    rw [Nat.testBit_two_pow_mul_add y (Nat.two_pow_pos t), if_neg (by omega), Nat.sub_self, Nat.testBit_zero] at e
    simpa using e
  have hp := Nat.two_pow_pos t
  have e1 : q = 2 ^ t * y + 0 := hy
  have e2 : q - 1 = 2 ^ t * (y - 1) + (2 ^ t - 1) := by
    obtain ⟨z, hz⟩ : ∃ z, y = z + 1 := ⟨y - 1, by omega⟩
    rw [hy, hz, Nat.mul_add, Nat.mul_one, Nat.add_sub_cancel]
    omega
  rw [e2, e1, Nat.testBit_two_pow_mul_add y hp, Nat.testBit_two_pow_mul_add (y - 1) (by omega : 2 ^ t - 1 < 2 ^ t)]
  by_cases c : j < t
  · rw [if_pos c, if_pos c, Nat.testBit_two_pow_sub_one]
    simp [c]
  · rw [if_neg c, if_neg c]
    simp only [c, decide_false]
    by_cases c2 : j = t
    · rw [c2, Nat.sub_self, Nat.testBit_zero, Nat.testBit_zero]
      simp [hy2]
    · obtain ⟨k, hk⟩ : ∃ k, j - t = k + 1 := ⟨j - t - 1, by omega⟩
      rw [hk, Nat.testBit_succ, Nat.testBit_succ]
      have e3 : (y - 1) / 2 = y / 2 := by omega
      rw [e3]
      cases (y / 2).testBit k <;> rfl
theorem cs_nti {i : Int32} {t : Nat} (ht : t < 32) (hb : i.toBitVec.getLsbD t = true) (hl : ∀ j, j < t → i.toBitVec.getLsbD j = false) : (i ^^^ (-1)) &&& (i - 1) = nI (2 ^ t - 1) := by
  apply Int32.toBitVec_inj.mp
  show (i.toBitVec ^^^ (-1 : Int32).toBitVec) &&& (i.toBitVec - (1 : Int32).toBitVec) = BitVec.ofNat 32 (2 ^ t - 1)
  have hq : 1 ≤ i.toBitVec.toNat := by
    rcases Nat.eq_zero_or_pos i.toBitVec.toNat with z | z
    · rw [← BitVec.testBit_toNat, z] at hb; simp at hb
    · exact z
  have hlt := i.toBitVec.isLt
  have e1 : (i.toBitVec - (1 : Int32).toBitVec).toNat = i.toBitVec.toNat - 1 := by
    rw [BitVec.toNat_sub]
    show (2 ^ 32 - 1 + i.toBitVec.toNat) % 2 ^ 32 = _
    omega
  apply BitVec.eq_of_getLsbD_eq
  intro j hj
  rw [BitVec.getLsbD_and, BitVec.getLsbD_xor, ← BitVec.testBit_toNat, ← BitVec.testBit_toNat (i.toBitVec - _), e1]
  have e2 : ((-1 : Int32).toBitVec).getLsbD j = true := by
    show (BitVec.allOnes 32).getLsbD j = true
    rw [BitVec.getLsbD_allOnes]
    exact decide_eq_true hj
  rw [e2, Bool.xor_true, cs_ntn (by rw [BitVec.testBit_toNat]; exact hb) (fun j hj => by rw [BitVec.testBit_toNat]; exact hl j hj)]
  rw [BitVec.getLsbD_ofNat, Nat.testBit_two_pow_sub_one]
  simp [hj]
def cs_wb (x : Int64) (j : Nat) : Bool := x.toBitVec.getLsbD j
theorem cs_wb_and (x y : Int64) (j : Nat) : cs_wb (x &&& y) j = (cs_wb x j && cs_wb y j) := BitVec.getLsbD_and
theorem cs_wb_xor (x y : Int64) (j : Nat) : cs_wb (x ^^^ y) j = xor (cs_wb x j) (cs_wb y j) := BitVec.getLsbD_xor
theorem cs_wb_m1 {j : Nat} (hj : j < 64) : cs_wb (-1) j = true := by
  show (BitVec.allOnes 64).getLsbD j = true
  rw [BitVec.getLsbD_allOnes]
  exact decide_eq_true hj
theorem cs_wb_0 {x : Int64} : x = 0 ↔ ∀ j, j < 64 → cs_wb x j = false := by
  constructor
  · intro h j hj; rw [h]; show (BitVec.ofNat 64 0).getLsbD j = false; simp
  · intro h
    apply Int64.toBitVec_inj.mp
    apply BitVec.eq_of_getLsbD_eq
    intro j hj
    rw [show x.toBitVec.getLsbD j = false from h j hj]
    show false = (BitVec.ofNat 64 0).getLsbD j
    simp
theorem cs_wb_lo (x : Int64) {j : Nat} (hj : j < 32) : x.toInt32.toBitVec.getLsbD j = cs_wb x j := by
  show (BitVec.signExtend 32 x.toBitVec).getLsbD j = _
  rw [BitVec.getLsbD_signExtend]
  simp [hj, show j < 64 by omega, cs_wb]
theorem cs_wb_sh (x : Int64) (a : UInt64) (n : Nat) (ha : a.toNat % 64 = n) {j : Nat} (hj : j < 32) : ((x.toUInt64 >>> a).toInt64).toInt32.toBitVec.getLsbD j = cs_wb x (n + j) := by
  show (BitVec.signExtend 32 (x.toBitVec >>> (a.toBitVec % 64).toNat)).getLsbD j = _
  have e : (a.toBitVec % 64).toNat = n := by rw [BitVec.toNat_umod]; exact ha
  rw [e, BitVec.getLsbD_signExtend, BitVec.getLsbD_ushiftRight]
  simp [hj, show j < 64 by omega, cs_wb]
theorem cs_wb_a1 (x : Int32) : x &&& 1 = if x.toBitVec.getLsbD 0 then 1 else 0 := by
  apply Int32.toBitVec_inj.mp
  apply BitVec.eq_of_getLsbD_eq
  intro j hj
  show (x.toBitVec &&& BitVec.ofNat 32 1).getLsbD j = _
  rw [BitVec.getLsbD_and, BitVec.getLsbD_ofNat]
  by_cases c : j = 0
  · subst c
    cases h : x.toBitVec.getLsbD 0 <;> simp <;> decide
  · have : Nat.testBit 1 j = false := by
      exact Nat.testBit_lt_two_pow (Nat.one_lt_two_pow c)
    rw [this]
    cases h : x.toBitVec.getLsbD 0
    · show _ = (BitVec.ofNat 32 0).getLsbD j
      simp
    · show _ = (BitVec.ofNat 32 1).getLsbD j
      rw [BitVec.getLsbD_ofNat, this]; simp
def cs_pt (i : Nat) : Int64 := if i = 0 then -6148914691236517206 else if i = 1 then -3689348814741910324 else if i = 2 then -1085102592571150096 else if i = 3 then -71777214294589696 else if i = 4 then -281470681808896 else -4294967296
theorem cs_pat : ∀ i : Fin 6, ∀ j : Fin 64, cs_wb (cs_pt i.val) j.val = j.val.testBit i.val := by decide
theorem cs_ush : ∀ k : Fin 32, ((nI k.val).toUInt32 &&& Int32.toUInt32 31).toNat % 32 = k.val := by decide
theorem cs_usr {b k : Nat} (hb : b < 2 ^ 31) (hk : k < 32) : ((nI b).toUInt32 >>> ((nI k).toUInt32 &&& Int32.toUInt32 31)).toInt32 = nI (b / 2 ^ k) := by
  apply Int32.toBitVec_inj.mp
  show (BitVec.ofNat 32 b) >>> ((((nI k).toUInt32 &&& Int32.toUInt32 31).toBitVec % 32).toNat) = BitVec.ofNat 32 (b / 2 ^ k)
  have e : ((((nI k).toUInt32 &&& Int32.toUInt32 31).toBitVec % 32).toNat) = k := by rw [BitVec.toNat_umod]; exact cs_ush ⟨k, hk⟩
  rw [e]
  apply BitVec.eq_of_toNat_eq
  rw [BitVec.toNat_ushiftRight, BitVec.toNat_ofNat, BitVec.toNat_ofNat, Nat.shiftRight_eq_div_pow, Nat.mod_eq_of_lt (by omega : b < 2 ^ 32)]
  rw [Nat.mod_eq_of_lt]
  exact Nat.lt_of_le_of_lt (Nat.div_le_self _ _) (by omega)
