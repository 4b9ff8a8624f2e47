/-! A ROUND as the class makes it, by the literals that stood for the gate's own -/
/-- F is E with joins: valid, and its models are E's with p -/
def sp_jm (n : Nat) (E F : sp_E) (p : (Nat → Bool) → Prop) : Prop := sp_va n F ∧ ∀ m, sp_M n F m ↔ sp_M n E m ∧ p m
theorem sp_jm_0 {n : Nat} {E : sp_E} (h : sp_va n E) : sp_jm n E E (fun _ => True) := ⟨h, fun m => by simp⟩
theorem sp_jm_j {n a b : Nat} {E F : sp_E} {p : (Nat → Bool) → Prop} (h : sp_jm n E F p) (ha : a < 2 * n) (hb : b < 2 * n) : sp_jm n E (sp_j F a b) (fun m => p m ∧ m a = m b) := ⟨(sp_j_va h.1 ha hb).1, fun m => by rw [sp_M_j h.1 ha hb, h.2 m, and_assoc]⟩
theorem sp_jm_1 {n a b : Nat} {E F : sp_E} {p : (Nat → Bool) → Prop} (h : sp_jm n E F p) (c : Prop) [Decidable c] (ha : a < 2 * n) (hb : b < 2 * n) : sp_jm n E (if c then sp_j F a b else F) (fun m => p m ∧ (c → m a = m b)) := by
  by_cases hc : c
  · rw [if_pos hc]
    have := sp_jm_j h ha hb
    simpa [hc] using this
  · rw [if_neg hc]
    simpa [hc] using h
theorem sp_jm_2 {n a b a2 b2 : Nat} {E F : sp_E} {p : (Nat → Bool) → Prop} (h : sp_jm n E F p) (c : Prop) [Decidable c] (ha : a < 2 * n) (hb : b < 2 * n) (ha2 : a2 < 2 * n) (hb2 : b2 < 2 * n) : sp_jm n E (if c then sp_j (sp_j F a b) a2 b2 else F) (fun m => p m ∧ (c → m a = m b ∧ m a2 = m b2)) := by
  by_cases hc : c
  · rw [if_pos hc]
    have := sp_jm_j (sp_jm_j h ha hb) ha2 hb2
    simpa [hc, and_assoc] using this
  · rw [if_neg hc]
    simpa [hc] using h
def cs_and (E : sp_E) (x a b : Nat) : sp_E :=
  let E1 := if a = 0 then sp_j E x b else E
  let E2 := if b = 0 then sp_j E1 x a else E1
  let E3 := if a = 1 ∨ b = 1 ∨ a = b ^^^ 1 then sp_j E2 x 1 else E2
  let E4 := if a = b then sp_j E3 x a else E3
  let E5 := if x = 0 then sp_j (sp_j E4 a 0) b 0 else E4
  let E6 := if x = a ^^^ 1 then sp_j (sp_j E5 a 0) b 1 else E5
  if x = b ^^^ 1 then sp_j (sp_j E6 b 0) a 1 else E6
def cs_same (E : sp_E) (x a b : Nat) : sp_E :=
  let E1 := if x = 0 then sp_j E a b else E
  let E2 := if x = 1 then sp_j E1 a (b ^^^ 1) else E1
  let E3 := if a = b then sp_j E2 x 0 else E2
  if a = b ^^^ 1 then sp_j E3 x 1 else E3
def cs_ob (ol : Nat → Nat) (E : sp_E) (k x a b : Nat) : sp_E := if k = 2 then cs_and E (ol x) (ol a) (ol b) else if k = 3 then cs_same (cs_same (cs_same E (ol x) (ol a) (ol b)) (ol a) (ol b) (ol x)) (ol b) (ol x) (ol a) else E
def cs_gs (kd o1 o2 ol : Nat → Nat) : Nat → Nat → sp_E → sp_E
  | _, 0, E => E
  | v, m + 1, E => if E.2 = true then E else cs_gs kd o1 o2 ol (v + 1) m (cs_ob ol E (kd v) (2 * v) (o1 v) (o2 v))
theorem cs_and_jm {n x a b : Nat} {E : sp_E} (h : sp_va n E) (h0 : 1 ≤ n) (hx : x < 2 * n) (ha : a < 2 * n) (hb : b < 2 * n) : sp_jm n E (cs_and E x a b) (fun m => ((((((((True ∧ (a = 0 → m x = m b)) ∧ (b = 0 → m x = m a)) ∧ (a = 1 ∨ b = 1 ∨ a = b ^^^ 1 → m x = m 1)) ∧ (a = b → m x = m a)) ∧ (x = 0 → m a = m 0 ∧ m b = m 0)) ∧ (x = a ^^^ 1 → m a = m 0 ∧ m b = m 1)) ∧ (x = b ^^^ 1 → m b = m 0 ∧ m a = m 1)))) :=
  sp_jm_2 (sp_jm_2 (sp_jm_2 (sp_jm_1 (sp_jm_1 (sp_jm_1 (sp_jm_1 (sp_jm_0 h) _ hx hb) _ hx ha) _ hx (by omega)) _ hx ha) _ ha (by omega) hb (by omega)) _ ha (by omega) hb (by omega)) _ hb (by omega) ha (by omega)
theorem sp_and_jm {n x a b : Nat} {ol : Nat → Nat} {E : sp_E} (h : sp_va n E) (h0 : 1 ≤ n) (hx : x < 2 * n) (ha : a < 2 * n) (hb : b < 2 * n) : sp_jm n E (sp_and ol E x a b) (fun m => ((((((((True ∧ (ol a = ol 0 → m x = m b)) ∧ (ol b = ol 0 → m x = m a)) ∧ (ol a = ol 1 ∨ ol b = ol 1 ∨ ol a = ol (b ^^^ 1) → m x = m 1)) ∧ (ol a = ol b → m x = m a)) ∧ (ol x = ol 0 → m a = m 0 ∧ m b = m 0)) ∧ (ol x = ol (a ^^^ 1) → m a = m 0 ∧ m b = m 1)) ∧ (ol x = ol (b ^^^ 1) → m b = m 0 ∧ m a = m 1)))) :=
  sp_jm_2 (sp_jm_2 (sp_jm_2 (sp_jm_1 (sp_jm_1 (sp_jm_1 (sp_jm_1 (sp_jm_0 h) _ hx hb) _ hx ha) _ hx (by omega)) _ hx ha) _ ha (by omega) hb (by omega)) _ ha (by omega) hb (by omega)) _ hb (by omega) ha (by omega)
theorem sp_jm_tr {n : Nat} {E F G : sp_E} {p q : (Nat → Bool) → Prop} (h : sp_jm n E F p) (h2 : sp_jm n F G q) : sp_jm n E G (fun m => p m ∧ q m) := ⟨h2.1, fun m => by rw [h2.2 m, h.2 m, and_assoc]⟩
theorem cs_same_jm {n x a b : Nat} {E : sp_E} (h : sp_va n E) (h0 : 1 ≤ n) (hx : x < 2 * n) (ha : a < 2 * n) (hb : b < 2 * n) : sp_jm n E (cs_same E x a b) (fun m => ((((True ∧ (x = 0 → m a = m b)) ∧ (x = 1 → m a = m (b ^^^ 1))) ∧ (a = b → m x = m 0)) ∧ (a = b ^^^ 1 → m x = m 1))) :=
  sp_jm_1 (sp_jm_1 (sp_jm_1 (sp_jm_1 (sp_jm_0 h) _ ha hb) _ ha (xor1_lt hb)) _ hx (by omega)) _ hx (by omega)
theorem sp_sam1_jm {n x a b t : Nat} {ol : Nat → Nat} {E : sp_E} (h : sp_va n E) (h0 : 1 ≤ n) (hx : x < 2 * n) (ha : a < 2 * n) (hb : b < 2 * n) (ht : t < 2) : sp_jm n E (sp_sam1 ol E x a b t) (fun m => ((((((True ∧ (ol a = ol t → m x = m (b ^^^ t))) ∧ (ol b = ol t → m x = m (a ^^^ t))) ∧ (ol x = ol t → m a = m (b ^^^ t))) ∧ (ol a = ol (b ^^^ t) → m x = m t)) ∧ (ol x = ol (a ^^^ t) → m b = m t)) ∧ (ol x = ol (b ^^^ t) → m a = m t))) :=
  sp_jm_1 (sp_jm_1 (sp_jm_1 (sp_jm_1 (sp_jm_1 (sp_jm_1 (sp_jm_0 h) _ hx (xort_lt hb ht)) _ hx (xort_lt ha ht)) _ ha (xort_lt hb ht)) _ hx (by omega)) _ hb (by omega)) _ ha (by omega)
theorem sp_va_01 {n : Nat} {E : sp_E} (h : sp_va n E) (h0 : 1 ≤ n) : E.1 0 = 0 ∧ E.1 1 = 1 := by
  have e0 : E.1 0 = 0 := by
    have := (h 0 (by omega)).1
    omega
  have e1 := (h 0 (by omega)).2.2
  rw [e0] at e1
  exact ⟨e0, e1⟩
/-- one gate: the class and the specification come to the same models -/
theorem cs_ob_eq {n k x a b : Nat} {E0 E F : sp_E} (h0 : 1 ≤ n) (hE0 : sp_va n E0) (hE : sp_va n E) (hF : sp_va n F) (hx : x < 2 * n) (hab : (k = 2 ∨ k = 3) → a < 2 * n ∧ b < 2 * n) (hs : ∀ m, sp_M n E m → sp_M n E0 m) (he : ∀ m, sp_M n E m ↔ sp_M n F m) : sp_va n (cs_ob E0.1 E k x a b) ∧ sp_va n (if k = 2 then sp_and E0.1 F x a b else if k = 3 then sp_same E0.1 F x a b else F) ∧ (∀ m, sp_M n (cs_ob E0.1 E k x a b) m ↔ sp_M n (if k = 2 then sp_and E0.1 F x a b else if k = 3 then sp_same E0.1 F x a b else F) m) ∧ (∀ m, sp_M n (cs_ob E0.1 E k x a b) m → sp_M n E m) := by
  obtain ⟨z0, z1⟩ := sp_va_01 hE0 h0
  have lt : ∀ l, l < 2 * n → E0.1 l < 2 * n := fun l hl => Nat.lt_of_le_of_lt (hE0 l hl).1 hl
  unfold cs_ob
  by_cases k2 : k = 2
  · rw [if_pos k2, if_pos k2]
    obtain ⟨ha, hb⟩ := hab (Or.inl k2)
    have p := cs_and_jm hE h0 (lt x hx) (lt a ha) (lt b hb)
    have q := sp_and_jm (ol := E0.1) hF h0 hx ha hb
    refine ⟨p.1, q.1, fun m => ?_, fun m hm => ((p.2 m).mp hm).1⟩
    rw [p.2 m, q.2 m, ← he m]
    refine and_congr_right fun hm => ?_
    have hm0 := (hs m hm).2
    dsimp only
    rw [(hm0 x hx).2, (hm0 a ha).2, (hm0 b hb).2, z0, z1, (hE0 b hb).2.2, (hE0 a ha).2.2]
  · rw [if_neg k2, if_neg k2]
    by_cases k3 : k = 3
    · rw [if_pos k3, if_pos k3]
      obtain ⟨ha, hb⟩ := hab (Or.inr k3)
      have p1 := cs_same_jm hE h0 (lt x hx) (lt a ha) (lt b hb)
      have p2 := sp_jm_tr p1 (cs_same_jm p1.1 h0 (lt a ha) (lt b hb) (lt x hx))
      have p := sp_jm_tr p2 (cs_same_jm p2.1 h0 (lt b hb) (lt x hx) (lt a ha))
      have q1 := sp_sam1_jm (ol := E0.1) (t := 0) hF h0 hx ha hb (by decide)
      have q := sp_jm_tr q1 (sp_sam1_jm (ol := E0.1) (t := 1) q1.1 h0 hx ha hb (by decide))
      refine ⟨p.1, q.1, fun m => ?_, fun m hm => ((p.2 m).mp hm).1⟩
      unfold sp_same
      rw [p.2 m, q.2 m, ← he m]
      refine and_congr_right fun hm => ?_
      have hm0 := (hs m hm).2
      have xx : ∀ l, l < 2 * n → m (E0.1 l ^^^ 1) = !(m l) := fun l hl => by rw [(hm0 _ (lt l hl)).1, (hm0 l hl).2]
      simp only [Nat.xor_zero, (hm0 x hx).2, (hm0 a ha).2, (hm0 b hb).2, z0, z1, (hE0 b hb).2.2, (hE0 a ha).2.2, xx x hx, xx a ha, xx b hb, (hm0 x hx).1, (hm0 a ha).1, (hm0 b hb).1, true_and]
      have sy : ∀ p q : Bool, (p = !q) ↔ (q = !p) := fun p q => by cases p <;> cases q <;> decide
      have fl : ∀ p q : Nat, p = q ^^^ 1 ↔ q = p ^^^ 1 := fun p q => ⟨fun h => by rw [h, x1_x1], fun h => by rw [h, x1_x1]⟩
      constructor
      · rintro ⟨⟨⟨⟨⟨a1, a2⟩, a3⟩, a4⟩, ⟨⟨⟨b1, b2⟩, b3⟩, b4⟩⟩, ⟨⟨⟨c1, c2⟩, c3⟩, c4⟩⟩
        exact ⟨⟨⟨⟨⟨⟨fun h => (b1 h).symm, c1⟩, a1⟩, a3⟩, c3⟩, fun h => b3 h.symm⟩, ⟨⟨⟨⟨⟨fun h => (sy _ _).mp (b2 h), c2⟩, a2⟩, a4⟩, c4⟩, fun h => b4 ((fl _ _).mp h)⟩⟩
      · rintro ⟨⟨⟨⟨⟨⟨b1, c1⟩, a1⟩, a3⟩, c3⟩, b3⟩, ⟨⟨⟨⟨⟨b2, c2⟩, a2⟩, a4⟩, c4⟩, b4⟩⟩
        exact ⟨⟨⟨⟨⟨a1, a2⟩, a3⟩, a4⟩, ⟨⟨⟨fun h => (b1 h).symm, fun h => (sy _ _).mp (b2 h)⟩, fun h => b3 h.symm⟩, fun h => b4 ((fl _ _).mp h)⟩⟩, ⟨⟨⟨c1, c2⟩, c3⟩, c4⟩⟩
    · rw [if_neg k3, if_neg k3]
      exact ⟨hE, hF, he, fun m hm => hm⟩
theorem cs_gs_eq {n : Nat} {kd o1 o2 : Nat → Nat} {E0 : sp_E} (hw : sp_wf n kd o1 o2) (h0 : 1 ≤ n) (hE0 : sp_va n E0) : ∀ (m v : Nat) (E F : sp_E), v + m = n → sp_va n E → sp_va n F → (∀ q, sp_M n E q → sp_M n E0 q) → (∀ q, sp_M n E q ↔ sp_M n F q) → sp_va n (cs_gs kd o1 o2 E0.1 v m E) ∧ sp_va n (sp_gs kd o1 o2 E0.1 v m F) ∧ (∀ q, sp_M n (cs_gs kd o1 o2 E0.1 v m E) q ↔ sp_M n (sp_gs kd o1 o2 E0.1 v m F) q) ∧ (∀ q, sp_M n (cs_gs kd o1 o2 E0.1 v m E) q → sp_M n E0 q) := by
  intro m
  induction m with
  | zero => intro v E F _ hE hF hs he; exact ⟨hE, hF, he, hs⟩
  | succ m ih =>
    intro v E F hv hE hF hs he
    obtain ⟨a1, a2, a3, a4⟩ := cs_ob_eq (k := kd v) (x := 2 * v) (a := o1 v) (b := o2 v) h0 hE0 hE hF (by omega) (fun hk => hw v (by omega) hk) hs he
    have key := ih (v + 1) _ _ (by omega) a1 a2 (fun q hq => hs q (a4 q hq)) a3
    unfold cs_gs sp_gs
    by_cases hc : E.2 = true
    · rw [if_pos hc]
      have nE : ∀ q, ¬ sp_M n E q := fun q hq => by have := hq.1; rw [hc] at this; cases this
      refine ⟨hE, key.2.1, fun q => ⟨fun h => absurd h (nE q), fun h => ?_⟩, fun q h => absurd h (nE q)⟩
      have h2 := (key.2.2.1 q).mpr h
      exfalso
      have hb : ∀ (m v : Nat) (G : sp_E), (∀ q, ¬ sp_M n G q) → sp_va n G → v + m = n → ∀ q, ¬ sp_M n (cs_gs kd o1 o2 E0.1 v m G) q := by
        intro m
        induction m with
        | zero => intro v G hG _ _; exact hG
        | succ m ih2 =>
          intro v G hG hvG hvm
          unfold cs_gs
          by_cases hc2 : G.2 = true
          · rw [if_pos hc2]; exact hG
          · obtain ⟨m0, hm0⟩ := sp_M_some hvG (by simpa using hc2)
            exact absurd hm0 (hG m0)
      exact hb m (v + 1) _ (fun q hq => nE q (a4 q hq)) a1 (by omega) q h2
    · rw [if_neg hc]
      exact key
theorem cs_rd_eq {n : Nat} {kd o1 o2 : Nat → Nat} {E : sp_E} (hw : sp_wf n kd o1 o2) (h0 : 1 ≤ n) (hE : sp_va n E) : sp_eq n (cs_gs kd o1 o2 E.1 1 (n - 1) E) (sp_rd n kd o1 o2 E) ∧ sp_va n (cs_gs kd o1 o2 E.1 1 (n - 1) E) ∧ sp_va n (sp_rd n kd o1 o2 E) ∧ ∀ q, sp_M n (sp_rd n kd o1 o2 E) q → sp_M n E q := by
  obtain ⟨a, b, c, d⟩ := cs_gs_eq hw h0 hE (n - 1) 1 E E (by omega) hE hE (fun q h => h) (fun q => Iff.rfl)
  exact ⟨sp_M_ext a b c, a, b, fun q h => d q ((c q).mpr h)⟩
