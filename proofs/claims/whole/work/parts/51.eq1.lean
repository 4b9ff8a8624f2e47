/-! EQUIVALENCES BY THEIR MODELS: the order of joins doesn't matter -/
/-- as good as equal: labels count only where there is no contradiction -/
def sp_eq (n : Nat) (E F : sp_E) : Prop := E.2 = F.2 ∧ (E.2 = false → ∀ l, l < 2 * n → E.1 l = F.1 l)
def sp_M (n : Nat) (E : sp_E) (m : Nat → Bool) : Prop := E.2 = false ∧ ∀ l, l < 2 * n → m (l ^^^ 1) = !(m l) ∧ m (E.1 l) = m l
theorem sp_eq_rf (n : Nat) (E : sp_E) : sp_eq n E E := ⟨rfl, fun _ _ _ => rfl⟩
theorem sp_eq_sy {n : Nat} {E F : sp_E} (h : sp_eq n E F) : sp_eq n F E := ⟨h.1.symm, fun h0 l hl => (h.2 (h.1.trans h0) l hl).symm⟩
theorem sp_eq_tr {n : Nat} {E F G : sp_E} (h : sp_eq n E F) (h2 : sp_eq n F G) : sp_eq n E G := ⟨h.1.trans h2.1, fun h0 l hl => (h.2 h0 l hl).trans (h2.2 (h.1.symm.trans h0) l hl)⟩
theorem sp_M_eq {n : Nat} {E F : sp_E} (h : sp_eq n E F) (m : Nat → Bool) : sp_M n E m ↔ sp_M n F m := by
  unfold sp_M
  constructor
  · rintro ⟨a, b⟩
    exact ⟨h.1 ▸ a, fun l hl => ⟨(b l hl).1, h.2 a l hl ▸ (b l hl).2⟩⟩
  · rintro ⟨a, b⟩
    exact ⟨h.1.trans a, fun l hl => ⟨(b l hl).1, (h.2 (h.1.trans a) l hl).symm ▸ (b l hl).2⟩⟩
/-- the models of a join -/
theorem sp_M_j {n a b : Nat} {E : sp_E} (hv : sp_va n E) (ha : a < 2 * n) (hb : b < 2 * n) (m : Nat → Bool) : sp_M n (sp_j E a b) m ↔ sp_M n E m ∧ m a = m b := by
  have hb1 := xor1_lt hb
  have ha1 := xor1_lt ha
  unfold sp_j
  by_cases c0 : E.2 = true
  · rw [if_pos (Or.inl c0)]
    unfold sp_M
    simp [c0]
  · have c0' : E.2 = false := by simpa using c0
    by_cases c1 : E.1 a = E.1 b
    · rw [if_pos (Or.inr c1)]
      refine ⟨fun h => ⟨h, ?_⟩, fun h => h.1⟩
      rw [← (h.2 a ha).2, c1, (h.2 b hb).2]
    · rw [if_neg (fun z => z.elim c0 c1)]
      by_cases c2 : E.1 a = E.1 (b ^^^ 1)
      · rw [if_pos c2]
        refine ⟨fun h => absurd h.1 (by simp), fun ⟨h, h2⟩ => ?_⟩
        have e : m a = !(m b) := by rw [← (h.2 a ha).2, c2, (h.2 _ hb1).2, (h.2 b hb).1]
        rw [h2] at e
        cases hh : m b <;> rw [hh] at e <;> cases e
      · rw [if_neg c2, (hv a ha).2.2, (hv b hb).2.2]
        rw [(hv b hb).2.2] at c2
        obtain ⟨lo, hi, hlt, hor, hf⟩ := sp_jl_form c1 c2
        unfold sp_M
        dsimp only
        have hjj : ∀ x, md_jl (E.1 a) (E.1 b) (E.1 a ^^^ 1) (E.1 b ^^^ 1) x = if x = lo ∨ x = hi then lo else if x = lo ^^^ 1 ∨ x = hi ^^^ 1 then lo ^^^ 1 else x := hf
        constructor
        · rintro ⟨-, h⟩
          have hE : ∀ l, l < 2 * n → m (E.1 l) = m l := fun l hl => by
            have hl2 : E.1 l < 2 * n := Nat.lt_of_le_of_lt (hv l hl).1 hl
            have h1 := (h l hl).2
            have h2 := (h _ hl2).2
            rw [(hv l hl).2.1] at h2
            rw [← h1, h2]
          refine ⟨⟨c0', fun l hl => ⟨(h l hl).1, hE l hl⟩⟩, ?_⟩
          have h1 := (h a ha).2
          have h2 := (h b hb).2
          rw [hjj, if_pos (by omega)] at h1 h2
          rw [← h1, h2]
        · rintro ⟨⟨-, h⟩, hab⟩
          refine ⟨rfl, fun l hl => ⟨(h l hl).1, ?_⟩⟩
          have hpq : m (E.1 a) = m (E.1 b) := by rw [(h a ha).2, (h b hb).2, hab]
          have hA : E.1 a < 2 * n := Nat.lt_of_le_of_lt (hv a ha).1 ha
          have hB : E.1 b < 2 * n := Nat.lt_of_le_of_lt (hv b hb).1 hb
          have hlh : m lo = m hi ∧ lo < 2 * n ∧ hi < 2 * n := by
            rcases hor with ⟨e1, e2⟩ | ⟨e1, e2⟩
            · rw [e1, e2]; exact ⟨hpq, hA, hB⟩
            · rw [e1, e2]; exact ⟨hpq.symm, hB, hA⟩
          rw [hjj, ← (h l hl).2]
          by_cases d1 : E.1 l = lo ∨ E.1 l = hi
          · rw [if_pos d1]
            rcases d1 with d | d <;> rw [d]
            exact hlh.1
          · rw [if_neg d1]
            by_cases d2 : E.1 l = lo ^^^ 1 ∨ E.1 l = hi ^^^ 1
            · rw [if_pos d2]
              rcases d2 with d | d <;> rw [d]
              rw [(h lo hlh.2.1).1, (h hi hlh.2.2).1, hlh.1]
            · rw [if_neg d2]
/-- without a contradiction two labels are told apart by a model -/
theorem sp_M_sep {n p q : Nat} {E : sp_E} (hv : sp_va n E) (h0 : E.2 = false) (hp : p < 2 * n) (hq : q < 2 * n) (h : ¬ E.1 p = E.1 q) : ∃ m, sp_M n E m ∧ ¬ m p = m q := by
  have hpar : ∀ l, l < 2 * n → ((E.1 (l ^^^ 1)) % 2 == 0) = !((E.1 l) % 2 == 0) ∧ E.1 (l ^^^ 1) / 2 = E.1 l / 2 := fun l hl => by
    rw [(hv l hl).2.2, x1_mod, x1_div]
    refine ⟨?_, rfl⟩
    rcases Nat.mod_two_eq_zero_or_one (E.1 l) with e | e <;> rw [e] <;> rfl
  by_cases c : E.1 p % 2 = E.1 q % 2
  · refine ⟨fun l => xor (E.1 l % 2 == 0) (E.1 l / 2 == E.1 p / 2), ⟨h0, fun l hl => ?_⟩, ?_⟩
    · dsimp only
      rw [(hpar l hl).1, (hpar l hl).2, (hv l hl).2.1]
      refine ⟨?_, rfl⟩
      cases (E.1 l % 2 == 0) <;> cases (E.1 l / 2 == E.1 p / 2) <;> rfl
    · dsimp only
      have d : ¬ E.1 q / 2 = E.1 p / 2 := by omega
      rw [c, beq_self_eq_true, beq_eq_false_iff_ne.mpr d]
      cases (E.1 q % 2 == 0) <;> simp
  · refine ⟨fun l => E.1 l % 2 == 0, ⟨h0, fun l hl => ?_⟩, ?_⟩
    · dsimp only
      rw [(hpar l hl).1, (hv l hl).2.1]
      exact ⟨rfl, rfl⟩
    · dsimp only
      intro z
      rcases Nat.mod_two_eq_zero_or_one (E.1 p) with e | e <;> rcases Nat.mod_two_eq_zero_or_one (E.1 q) with e2 | e2 <;> rw [e, e2] at z c
      · exact c rfl
      · cases z
      · cases z
      · exact c rfl
theorem sp_M_some {n : Nat} {E : sp_E} (hv : sp_va n E) (h0 : E.2 = false) : ∃ m, sp_M n E m := by
  refine ⟨fun l => E.1 l % 2 == 0, ⟨h0, fun l hl => ?_⟩⟩
  dsimp only
  rw [(hv l hl).2.2, x1_mod, (hv l hl).2.1]
  refine ⟨?_, rfl⟩
  rcases Nat.mod_two_eq_zero_or_one (E.1 l) with e | e <;> rw [e] <;> rfl
/-- models tell all -/
theorem sp_M_le {n : Nat} {E F : sp_E} (hE : sp_va n E) (hF : sp_va n F) (hF0 : F.2 = false) (h : ∀ m, sp_M n F m → sp_M n E m) : ∀ l, l < 2 * n → F.1 l ≤ E.1 l := by
  intro l hl
  have hl2 : E.1 l < 2 * n := Nat.lt_of_le_of_lt (hE l hl).1 hl
  by_cases c : F.1 (E.1 l) = F.1 l
  · rw [← c]
    exact (hF _ hl2).1
  · obtain ⟨m, hm, hne⟩ := sp_M_sep hF hF0 hl2 hl c
    exact absurd ((h m hm).2 l hl).2 hne
theorem sp_M_ext {n : Nat} {E F : sp_E} (hE : sp_va n E) (hF : sp_va n F) (h : ∀ m, sp_M n E m ↔ sp_M n F m) : sp_eq n E F := by
  have h2 : E.2 = F.2 := by
    cases c1 : E.2 <;> cases c2 : F.2
    · rfl
    · obtain ⟨m, hm⟩ := sp_M_some hE c1
      have := ((h m).mp hm).1
      rw [c2] at this; cases this
    · obtain ⟨m, hm⟩ := sp_M_some hF c2
      have := ((h m).mpr hm).1
      rw [c1] at this; cases this
    · rfl
  refine ⟨h2, fun h0 l hl => ?_⟩
  have a := sp_M_le hE hF (h2 ▸ h0) (fun m hm => (h m).mpr hm) l hl
  have b := sp_M_le hF hE h0 (fun m hm => (h m).mp hm) l hl
  omega
theorem sp_M_if {n : Nat} {c : Prop} [Decidable c] {E F : sp_E} {m : Nat → Bool} {p : Prop} (h : sp_M n F m ↔ sp_M n E m ∧ p) : sp_M n (if c then F else E) m ↔ sp_M n E m ∧ (c → p) := by
  by_cases hc : c
  · rw [if_pos hc, h]; simp [hc]
  · rw [if_neg hc]; simp [hc]
/-- equal equivalences are joined alike -/
theorem sp_eq_j {n a b : Nat} {E F : sp_E} (h : sp_eq n E F) (hE : sp_va n E) (hF : sp_va n F) (ha : a < 2 * n) (hb : b < 2 * n) : sp_eq n (sp_j E a b) (sp_j F a b) := by
  refine sp_M_ext (sp_j_va hE ha hb).1 (sp_j_va hF ha hb).1 (fun m => ?_)
  rw [sp_M_j hE ha hb, sp_M_j hF ha hb, sp_M_eq h]
theorem sp_ct_cg {p q : Nat → Bool} : ∀ (m v : Nat), (∀ l, v ≤ l → l < v + m → p l = q l) → sp_ct p v m = sp_ct q v m := by
  intro m v h
  exact Nat.le_antisymm (sp_ct_mono m v (fun l a b c => by rw [← h l a b]; exact c)) (sp_ct_mono m v (fun l a b c => by rw [h l a b]; exact c))
theorem sp_eq_cn {n : Nat} {E F : sp_E} (h : sp_eq n E F) (h0 : E.2 = false) : sp_cn n E = sp_cn n F := sp_ct_cg _ _ (fun l _ hl => by rw [h.2 h0 l (by omega)])
theorem sp_ct_rm {p : Nat → Bool} {r : Nat} (hp : p r = true) : ∀ (m v : Nat), v ≤ r → r < v + m → sp_ct (fun l => p l && l != r) v m + 1 = sp_ct p v m := by
  intro m
  induction m with
  | zero => intro v a b; omega
  | succ m ih =>
    intro v a b
    unfold sp_ct
    by_cases e : v = r
    · subst e
      rw [hp]
      have e2 : sp_ct (fun l => p l && l != v) (v + 1) m = sp_ct p (v + 1) m := sp_ct_cg _ _ (fun l hl _ => by
        have : (l != v) = true := by simp; omega
        rw [this, Bool.and_true])
      rw [e2]
      simp
      omega
    · have := ih (v + 1) (by omega) (by omega)
      have e3 : (v != r) = true := by simpa using e
      rw [e3, Bool.and_true]
      omega
/-- a proper join takes two classes away -/
theorem sp_j_cn {n a b : Nat} {E : sp_E} (hv : sp_va n E) (ha : a < 2 * n) (hb : b < 2 * n) (h0 : E.2 = false) (c1 : ¬ E.1 a = E.1 b) (c2 : ¬ E.1 a = E.1 b ^^^ 1) : sp_cn n (sp_j E a b) + 2 = sp_cn n E := by
  unfold sp_j
  rw [if_neg (fun z => z.elim (fun z => by rw [h0] at z; cases z) c1), (hv b hb).2.2, if_neg c2, (hv a ha).2.2]
  obtain ⟨lo, hi, hlt, hor, hf⟩ := sp_jl_form c1 c2
  have hA : E.1 a < 2 * n := Nat.lt_of_le_of_lt (hv a ha).1 ha
  have hB : E.1 b < 2 * n := Nat.lt_of_le_of_lt (hv b hb).1 hb
  have hlh : (lo < 2 * n ∧ hi < 2 * n) ∧ E.1 lo = lo ∧ E.1 hi = hi := by
    rcases hor with ⟨e1, e2⟩ | ⟨e1, e2⟩
    · rw [e1, e2]; exact ⟨⟨hA, hB⟩, (hv a ha).2.1, (hv b hb).2.1⟩
    · rw [e1, e2]; exact ⟨⟨hB, hA⟩, (hv b hb).2.1, (hv a ha).2.1⟩
  have hh1 := xor1_lt hlh.1.2
  have e1 : E.1 (hi ^^^ 1) = hi ^^^ 1 := by rw [(hv _ hlh.1.2).2.2, hlh.2.2]
  have e2 : E.1 (lo ^^^ 1) = lo ^^^ 1 := by rw [(hv _ hlh.1.1).2.2, hlh.2.1]
  unfold sp_cn
  have k1 := sp_ct_rm (p := fun l => E.1 l == l) (r := hi) (by simp [hlh.2.2]) (2 * n) 0 (Nat.zero_le _) (by omega)
  have k2 := sp_ct_rm (p := fun l => E.1 l == l && l != hi) (r := hi ^^^ 1) (by simp [e1, x1_ne]) (2 * n) 0 (Nat.zero_le _) (by omega)
  have k3 : sp_ct (fun l => md_jl (E.1 a) (E.1 b) (E.1 a ^^^ 1) (E.1 b ^^^ 1) (E.1 l) == l) 0 (2 * n) = sp_ct (fun l => (E.1 l == l && l != hi) && l != hi ^^^ 1) 0 (2 * n) := sp_ct_cg _ _ (fun l _ hl => by
    rw [hf]
    have hl' : l < 2 * n := by omega
    have hx := x1_lt hlt
    by_cases d0 : E.1 l = l
    · by_cases d1 : l = lo
      · subst d1
        rw [d0, if_pos (Or.inl rfl)]
        have : (l != hi) = true := by simp; omega
        have h2 : (l != hi ^^^ 1) = true := by simp; omega
        rw [this, h2]; simp
      · by_cases d2 : l = hi
        · subst d2
          rw [d0, if_pos (Or.inr rfl)]
          have : ¬ lo = l := by omega
          simp [this]
        · rw [d0, if_neg (by omega)]
          by_cases d3 : l = lo ^^^ 1
          · rw [if_pos (Or.inl d3)]
            have a1 : (l != hi) = true := by simp; omega
            have a2 : (l != hi ^^^ 1) = true := by simp; omega
            rw [a1, a2]; simp [d3]
          · by_cases d4 : l = hi ^^^ 1
            · rw [if_pos (Or.inr d4)]
              have : ¬ lo ^^^ 1 = hi ^^^ 1 := by omega
              simp [this, d4]
            · rw [if_neg (by omega)]
              have a1 : (l != hi) = true := by simp; omega
              have a2 : (l != hi ^^^ 1) = true := by simp; omega
              rw [a1, a2]; simp
    · have r0 : (E.1 l == l) = false := by simpa using d0
      rw [r0, Bool.false_and, Bool.false_and]
      have q : E.1 (E.1 l) = E.1 l := (hv l hl').2.1
      have key : ∀ r, E.1 r = r → ¬ r = l := fun r hr z => d0 (z ▸ hr)
      have kl := key lo hlh.2.1
      have kl1 := key _ e2
      split
      · simpa using kl
      · split
        · simpa using kl1
        · simpa using d0)
  rw [k3]
  omega
