/-! SATURATION to a depth: the specification, and the reference's machine of frames -/
abbrev sp_T : Type := Nat × Nat × Nat × Nat
abbrev sp_Z : Type := Bool × sp_E × sp_T
/-- a branch more that is a contradiction -/
def sp_tb (t : sp_T) (c : Bool) : sp_T := (t.1, t.2.1, t.2.2.1, if c then t.2.2.2 + 1 else t.2.2.2)
/-- a step -/
def sp_st (n : Nat) (kd o1 o2 : Nat → Nat) (ms : Nat) (E : sp_E) (t : sp_T) : sp_Z := if t.1 = ms then (true, E, t) else (false, (sp_sat0 n kd o1 o2 (2 * n + 1) E t.2.1).1, (t.1 + 1, (sp_sat0 n kd o1 o2 (2 * n + 1) E t.2.1).2, t.2.2))
/-- a pass from v on, m variables: spent, the equivalence, the tallies -/
def sp_ps (sat : sp_E → sp_T → sp_Z) : Nat → Nat → sp_E → sp_T → sp_Z
  | 0, _, E, t => (false, E, t)
  | m + 1, v, E, t => if sp_fr E v then
      (let z1 := sat (sp_j E (2 * v) 0) t
       if z1.1 = true then (true, E, z1.2.2) else
       let z2 := sat (sp_j E (2 * v) 1) (sp_tb z1.2.2 z1.2.1.2)
       if z2.1 = true then (true, E, z2.2.2) else
       if (sp_ag E z1.2.1 z2.2.1).2 = true then (false, sp_ag E z1.2.1 z2.2.1, sp_tb z2.2.2 z2.2.1.2)
       else sp_ps sat m (v + 1) (sp_ag E z1.2.1 z2.2.1) (sp_tb z2.2.2 z2.2.1.2))
    else sp_ps sat m (v + 1) E t
/-- passes, at most q -/
def sp_pp (n : Nat) (stp sat : sp_E → sp_T → sp_Z) : Nat → sp_E → sp_T → sp_Z
  | 0, E, t => (false, E, t)
  | q + 1, E, t =>
    let z := sp_ps sat (n - 1) 1 E (t.1, t.2.1, t.2.2.1 + 1, t.2.2.2)
    if z.1 = true ∨ z.2.1.2 = true then z else
    if sp_cn n z.2.1 < sp_cn n E then
      (let y := stp z.2.1 z.2.2
       if y.1 = true ∨ y.2.1.2 = true then y else sp_pp n stp sat q y.2.1 y.2.2)
    else z
/-- SATURATED to depth k -/
def sp_sk (n : Nat) (kd o1 o2 : Nat → Nat) (ms : Nat) : Nat → sp_E → sp_T → sp_Z
  | 0, E, t => sp_st n kd o1 o2 ms E t
  | k + 1, E, t =>
    let y := sp_st n kd o1 o2 ms E t
    if y.1 = true ∨ y.2.1.2 = true then y else sp_pp n (sp_st n kd o1 o2 ms) (sp_sk n kd o1 o2 ms k) (2 * n + 1) y.2.1 y.2.2
/-- what a saturation keeps -/
def sp_ok (n ms : Nat) (E : sp_E) (t : sp_T) : Prop := sp_bd n E ∧ t.1 ≤ ms ∧ sp_va n E
theorem sp_ok_j {n ms a b : Nat} {E : sp_E} {t t2 : sp_T} (h : sp_ok n ms E t) (h2 : t2.1 ≤ ms) (ha : a < 2 * n) (hb : b < 2 * n) : sp_ok n ms (sp_j E a b) t2 := ⟨sp_j_bd h.1 ha hb, h2, (sp_j_va h.2.2 ha hb).1⟩
theorem sp_ok_ag {n ms : Nat} {E E1 E2 : sp_E} {t t1 t2 t3 : sp_T} (h : sp_ok n ms E t) (h1 : sp_ok n ms E1 t1) (h2 : sp_ok n ms E2 t2) (h3 : t3.1 ≤ ms) : sp_ok n ms (sp_ag E E1 E2) t3 := ⟨sp_ag_bd h.1 h2.1, h3, sp_ag_va h.2.2 h1.2.2 h2.2.2⟩
theorem sp_ok_t {n ms : Nat} {E : sp_E} {t t2 : sp_T} (h : sp_ok n ms E t) (h2 : t2.1 ≤ ms) : sp_ok n ms E t2 := ⟨h.1, h2, h.2.2⟩
def sp_gd (n ms : Nat) (sat : sp_E → sp_T → sp_Z) : Prop := ∀ E t, sp_ok n ms E t → sp_ok n ms (sat E t).2.1 (sat E t).2.2
theorem sp_st_gd {n ms : Nat} {kd o1 o2 : Nat → Nat} (hw : sp_wf n kd o1 o2) (h0 : 1 ≤ n) : sp_gd n ms (sp_st n kd o1 o2 ms) := by
  intro E t h
  unfold sp_st
  split
  · exact h
  · exact ⟨sp_sat0_bd hw h0 _ _ _ h.1, by have := h.2.1; show t.1 + 1 ≤ ms; omega, (sp_le_sat0 hw h0 _ _ _ ⟨h.2.2, Nat.le_refl _⟩).1⟩
theorem sp_st_cn {n ms : Nat} {kd o1 o2 : Nat → Nat} (hw : sp_wf n kd o1 o2) (h0 : 1 ≤ n) {E : sp_E} (t : sp_T) (h : sp_va n E) : sp_cn n (sp_st n kd o1 o2 ms E t).2.1 ≤ sp_cn n E := by
  unfold sp_st
  split
  · exact Nat.le_refl _
  · exact (sp_le_sat0 hw h0 _ _ _ ⟨h, Nat.le_refl _⟩).2
theorem sp_tb_ok {n ms : Nat} {E : sp_E} {t : sp_T} (h : sp_ok n ms E t) (c : Bool) : sp_ok n ms E (sp_tb t c) := h
theorem sp_ps_gd {n ms : Nat} {sat : sp_E → sp_T → sp_Z} (hg : sp_gd n ms sat) (h0 : 1 ≤ n) : ∀ (m v : Nat) (E : sp_E) (t : sp_T), v + m = n → sp_ok n ms E t → sp_ok n ms (sp_ps sat m v E t).2.1 (sp_ps sat m v E t).2.2 := by
  intro m
  induction m with
  | zero => intro v E t _ h; exact h
  | succ m ih =>
    intro v E t hv h
    have g1 := hg (sp_j E (2 * v) 0) t (sp_ok_j h h.2.1 (by omega) (by omega))
    have g2 := hg (sp_j E (2 * v) 1) (sp_tb (sat (sp_j E (2 * v) 0) t).2.2 (sat (sp_j E (2 * v) 0) t).2.1.2) (sp_ok_j h g1.2.1 (by omega) (by omega))
    unfold sp_ps
    split
    · dsimp only
      split
      · exact sp_ok_t h g1.2.1
      · split
        · exact sp_ok_t h g2.2.1
        · split
          · exact (sp_ok_ag h g1 g2 g2.2.1)
          · exact ih _ _ _ (by omega) (sp_ok_ag h g1 g2 g2.2.1)
    · exact ih _ _ _ (by omega) h
theorem sp_pp_gd {n ms : Nat} {stp sat : sp_E → sp_T → sp_Z} (hs : sp_gd n ms stp) (hg : sp_gd n ms sat) (h0 : 1 ≤ n) : ∀ (q : Nat) (E : sp_E) (t : sp_T), sp_ok n ms E t → sp_ok n ms (sp_pp n stp sat q E t).2.1 (sp_pp n stp sat q E t).2.2 := by
  intro q
  induction q with
  | zero => intro E t h; exact h
  | succ q ih =>
    intro E t h
    have g1 := sp_ps_gd hg h0 (n - 1) 1 E (t.1, t.2.1, t.2.2.1 + 1, t.2.2.2) (by omega) (sp_ok_t h h.2.1)
    have g2 := hs _ _ g1
    unfold sp_pp
    dsimp only
    split
    · exact g1
    · split
      · split
        · exact g2
        · exact ih _ _ g2
      · exact g1
theorem sp_sk_gd {n ms : Nat} {kd o1 o2 : Nat → Nat} (hw : sp_wf n kd o1 o2) (h0 : 1 ≤ n) : ∀ k : Nat, sp_gd n ms (sp_sk n kd o1 o2 ms k) := by
  intro k
  induction k with
  | zero => exact sp_st_gd hw h0
  | succ k ih =>
    intro E t h
    have g1 := sp_st_gd (ms := ms) hw h0 E t h
    unfold sp_sk
    dsimp only
    split
    · exact g1
    · exact sp_pp_gd (sp_st_gd hw h0) ih h0 _ _ _ g1
