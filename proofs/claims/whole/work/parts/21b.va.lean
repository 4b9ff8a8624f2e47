/-! labels that are least, and closed under turning: kept by joins; classes grow fewer -/
theorem x1_div (x : Nat) : (x ^^^ 1) / 2 = x / 2 := by
  rw [Nat.xor_div_two]
  simp
theorem x1_mod (x : Nat) : (x ^^^ 1) % 2 = 1 - x % 2 := by
  have h := Nat.xor_mod_two_pow (a := x) (b := 1) (n := 1)
  rw [Nat.pow_one] at h
  rw [h]
  have : x % 2 = 0 ∨ x % 2 = 1 := by omega
  rcases this with e | e <;> rw [e] <;> decide
theorem x1_ne (x : Nat) : ¬ x ^^^ 1 = x := fun h => by
  have := x1_mod x
  rw [h] at this
  omega
theorem x1_x1 (x : Nat) : x ^^^ 1 ^^^ 1 = x := by
  have h1 := x1_div (x ^^^ 1)
  have h2 := x1_div x
  have h3 := x1_mod (x ^^^ 1)
  have h4 := x1_mod x
  omega
theorem x1_eq {x y : Nat} (h : x / 2 = y / 2) : x = y ∨ x = y ^^^ 1 := by
  have h2 := x1_div y
  have h4 := x1_mod y
  omega
theorem x1_lt {x y : Nat} (h : x / 2 < y / 2) : x ^^^ 1 < y ^^^ 1 ∧ x ^^^ 1 < y ∧ x < y ^^^ 1 ∧ x < y := by
  have h1 := x1_div x
  have h2 := x1_div y
  omega
theorem x1_inj {x y : Nat} (h : x ^^^ 1 = y ^^^ 1) : x = y := by
  have := congrArg (fun z => z ^^^ 1) h
  simpa [x1_x1] using this
/-- each literal's label is the least of its class, and turned with it -/
def sp_va (n : Nat) (E : sp_E) : Prop := ∀ l, l < 2 * n → E.1 l ≤ l ∧ E.1 (E.1 l) = E.1 l ∧ E.1 (l ^^^ 1) = E.1 l ^^^ 1
theorem sp_va_bd {n : Nat} {E : sp_E} (h : sp_va n E) : sp_bd n E := fun l hl => Nat.lt_of_le_of_lt (h l hl).1 hl
/-- a join that is none of the simple ones: the lesser label lo takes all -/
theorem sp_jl_form {p q : Nat} (h1 : ¬ p = q) (h2 : ¬ p = q ^^^ 1) : ∃ lo hi : Nat, lo / 2 < hi / 2 ∧ (lo = p ∧ hi = q ∨ lo = q ∧ hi = p) ∧ ∀ x, md_jl p q (p ^^^ 1) (q ^^^ 1) x = if x = lo ∨ x = hi then lo else if x = lo ^^^ 1 ∨ x = hi ^^^ 1 then lo ^^^ 1 else x := by
  have hd : ¬ p / 2 = q / 2 := fun h => (x1_eq h).elim h1 h2
  by_cases hlt : p / 2 < q / 2
  · obtain ⟨a1, a2, a3, a4⟩ := x1_lt hlt
    refine ⟨p, q, hlt, Or.inl ⟨rfl, rfl⟩, fun x => ?_⟩
    simp only [md_jl, sp_mn, a1, a4, if_true]
  · have hgt : q / 2 < p / 2 := by omega
    obtain ⟨a1, a2, a3, a4⟩ := x1_lt hgt
    have b1 : ¬ p < q := by omega
    have b2 : ¬ p ^^^ 1 < q ^^^ 1 := by omega
    refine ⟨q, p, hgt, Or.inr ⟨rfl, rfl⟩, fun x => ?_⟩
    simp only [md_jl, sp_mn, b1, b2, if_false]
    have o1 : (x = q ∨ x = p) ↔ (x = p ∨ x = q) := or_comm
    have o2 : (x = q ^^^ 1 ∨ x = p ^^^ 1) ↔ (x = p ^^^ 1 ∨ x = q ^^^ 1) := or_comm
    simp only [o1, o2]
theorem sp_ct_mono {p q : Nat → Bool} : ∀ (m v : Nat), (∀ l, v ≤ l → l < v + m → p l = true → q l = true) → sp_ct p v m ≤ sp_ct q v m := by
  intro m
  induction m with
  | zero => intro v _; exact Nat.le_refl _
  | succ m ih =>
    intro v h
    have := ih (v + 1) (fun l a b c => h l (by omega) (by omega) c)
    unfold sp_ct
    have h0 := h v (Nat.le_refl v) (by omega)
    cases hp : p v with
    | true => rw [h0 hp]; simp; exact this
    | false => simp; omega
theorem sp_j_va {n a b : Nat} {E : sp_E} (h : sp_va n E) (ha : a < 2 * n) (hb : b < 2 * n) : sp_va n (sp_j E a b) ∧ sp_cn n (sp_j E a b) ≤ sp_cn n E := by
  unfold sp_j
  split
  · exact ⟨h, Nat.le_refl _⟩
  · rename_i h1
    split
    · exact ⟨h, Nat.le_refl _⟩
    · rename_i h2
      obtain ⟨p1, p2, p3⟩ := h a ha
      obtain ⟨q1, q2, q3⟩ := h b hb
      rw [p3, q3]
      rw [q3] at h2
      obtain ⟨lo, hi, hlt, hor, hf⟩ := sp_jl_form (fun e => h1 (Or.inr e)) h2
      obtain ⟨a1, a2, a3, a4⟩ := x1_lt hlt
      have hlo : E.1 lo = lo ∧ lo < 2 * n := by
        rcases hor with ⟨e, -⟩ | ⟨e, -⟩
        · rw [e]; exact ⟨p2, by omega⟩
        · rw [e]; exact ⟨q2, by omega⟩
      have hhi : E.1 hi = hi ∧ hi < 2 * n := by
        rcases hor with ⟨-, e⟩ | ⟨-, e⟩
        · rw [e]; exact ⟨q2, by omega⟩
        · rw [e]; exact ⟨p2, by omega⟩
      have hlo1 : E.1 (lo ^^^ 1) = lo ^^^ 1 := by rw [(h lo hlo.2).2.2, hlo.1]
      have hhi1 : E.1 (hi ^^^ 1) = hi ^^^ 1 := by rw [(h hi hhi.2).2.2, hhi.1]
      have n1 := x1_ne lo
      have n2 := x1_ne hi
      have d1 := x1_div lo
      have d2 := x1_div hi
      have e1 : ¬ lo ^^^ 1 = hi := by omega
      have e2 : ¬ hi ^^^ 1 = lo := by omega
      have e3 : ¬ lo = hi := by omega
      have e4 : ¬ lo ^^^ 1 = hi ^^^ 1 := by omega
      constructor
      · intro l hl
        obtain ⟨l1, l2, l3⟩ := h l hl
        show md_jl _ _ _ _ (E.1 l) ≤ l ∧ md_jl _ _ _ _ (E.1 (md_jl _ _ _ _ (E.1 l))) = md_jl _ _ _ _ (E.1 l) ∧ md_jl _ _ _ _ (E.1 (l ^^^ 1)) = md_jl _ _ _ _ (E.1 l) ^^^ 1
        simp only [hf, l3]
        by_cases c1 : E.1 l = lo
        · have : lo ^^^ 1 = lo ^^^ 1 := rfl
          simp [c1, hlo.1, n1, e1]
          omega
        · by_cases c2 : E.1 l = hi
          · simp [c2, hlo.1, Ne.symm e3, n2, e2]
            omega
          · by_cases c3 : E.1 l = lo ^^^ 1
            · simp [c3, hlo1, n1, e1, x1_x1]
              omega
            · by_cases c4 : E.1 l = hi ^^^ 1
              · simp [c4, hlo1, n1, n2, e1, e2, x1_x1]
                omega
              · have m1 : ¬ E.1 l ^^^ 1 = lo := fun e => c3 (by rw [← e, x1_x1])
                have m2 : ¬ E.1 l ^^^ 1 = hi := fun e => c4 (by rw [← e, x1_x1])
                have m3 : ¬ E.1 l ^^^ 1 = lo ^^^ 1 := fun e => c1 (x1_inj e)
                have m4 : ¬ E.1 l ^^^ 1 = hi ^^^ 1 := fun e => c2 (x1_inj e)
                simp [c1, c2, c3, c4, m1, m2, m3, m4, l2]
                exact l1
      · refine sp_ct_mono _ _ (fun l _ hl hp => ?_)
        simp only [beq_iff_eq, hf] at hp ⊢
        by_cases c1 : E.1 l = lo ∨ E.1 l = hi
        · rw [if_pos c1] at hp
          rw [← hp]; exact hlo.1
        · rw [if_neg c1] at hp
          by_cases c2 : E.1 l = lo ^^^ 1 ∨ E.1 l = hi ^^^ 1
          · rw [if_pos c2] at hp
            rw [← hp]; exact hlo1
          · rw [if_neg c2] at hp
            exact hp
/-- E2 is as good as E, with no more classes -/
def sp_le (n : Nat) (E E2 : sp_E) : Prop := sp_va n E2 ∧ sp_cn n E2 ≤ sp_cn n E
theorem sp_le_j {n a b : Nat} {E0 E : sp_E} (h : sp_le n E0 E) (ha : a < 2 * n) (hb : b < 2 * n) : sp_le n E0 (sp_j E a b) := by
  obtain ⟨h1, h2⟩ := sp_j_va h.1 ha hb
  exact ⟨h1, Nat.le_trans h2 h.2⟩
theorem sp_le_if {n : Nat} {c : Prop} [Decidable c] {E0 E E2 : sp_E} (h1 : sp_le n E0 E) (h2 : sp_le n E0 E2) : sp_le n E0 (if c then E else E2) := by split <;> assumption
theorem sp_le_and {n x a b : Nat} {ol : Nat → Nat} {E0 E : sp_E} (hE : sp_le n E0 E) (hx : x < 2 * n) (ha : a < 2 * n) (hb : b < 2 * n) (h0 : 1 ≤ n) : sp_le n E0 (sp_and ol E x a b) := by
  have z0 : 0 < 2 * n := by omega
  have z1 : 1 < 2 * n := by omega
  unfold sp_and
  have b1 := sp_le_if (c := ol a = ol 0) (sp_le_j hE hx hb) hE
  have b2 := sp_le_if (c := ol b = ol 0) (sp_le_j b1 hx ha) b1
  have b3 := sp_le_if (c := ol a = ol 1 ∨ ol b = ol 1 ∨ ol a = ol (b ^^^ 1)) (sp_le_j b2 hx z1) b2
  have b4 := sp_le_if (c := ol a = ol b) (sp_le_j b3 hx ha) b3
  have b5 := sp_le_if (c := ol x = ol 0) (sp_le_j (sp_le_j b4 ha z0) hb z0) b4
  have b6 := sp_le_if (c := ol x = ol (a ^^^ 1)) (sp_le_j (sp_le_j b5 ha z0) hb z1) b5
  exact sp_le_if (c := ol x = ol (b ^^^ 1)) (sp_le_j (sp_le_j b6 hb z0) ha z1) b6
theorem sp_le_sam1 {n x a b t : Nat} {ol : Nat → Nat} {E0 E : sp_E} (hE : sp_le n E0 E) (hx : x < 2 * n) (ha : a < 2 * n) (hb : b < 2 * n) (ht : t < 2) (h0 : 1 ≤ n) : sp_le n E0 (sp_sam1 ol E x a b t) := by
  have ha1 := xort_lt ha ht
  have hb1 := xort_lt hb ht
  have htn : t < 2 * n := by omega
  unfold sp_sam1
  have b1 := sp_le_if (c := ol a = ol t) (sp_le_j hE hx hb1) hE
  have b2 := sp_le_if (c := ol b = ol t) (sp_le_j b1 hx ha1) b1
  have b3 := sp_le_if (c := ol x = ol t) (sp_le_j b2 ha hb1) b2
  have b4 := sp_le_if (c := ol a = ol (b ^^^ t)) (sp_le_j b3 hx htn) b3
  have b5 := sp_le_if (c := ol x = ol (a ^^^ t)) (sp_le_j b4 hb htn) b4
  exact sp_le_if (c := ol x = ol (b ^^^ t)) (sp_le_j b5 ha htn) b5
theorem sp_le_gs {n : Nat} {kd o1 o2 ol : Nat → Nat} (hw : sp_wf n kd o1 o2) (h0 : 1 ≤ n) {E0 : sp_E} : ∀ (m v : Nat) (E : sp_E), v + m = n → sp_le n E0 E → sp_le n E0 (sp_gs kd o1 o2 ol v m E) := by
  intro m
  induction m with
  | zero => intro v E _ hE; exact hE
  | succ m ih =>
    intro v E hv hE
    unfold sp_gs
    refine ih (v + 1) _ (by omega) ?_
    by_cases c2 : kd v = 2
    · rw [if_pos c2]
      obtain ⟨a1, a2⟩ := hw v (by omega) (Or.inl c2)
      exact sp_le_and hE (by omega) a1 a2 h0
    · rw [if_neg c2]
      by_cases c3 : kd v = 3
      · rw [if_pos c3]
        obtain ⟨a1, a2⟩ := hw v (by omega) (Or.inr c3)
        exact sp_le_sam1 (sp_le_sam1 hE (by omega) a1 a2 (by decide) h0) (by omega) a1 a2 (by decide) h0
      · rw [if_neg c3]
        exact hE
theorem sp_le_sat0 {n : Nat} {kd o1 o2 : Nat → Nat} (hw : sp_wf n kd o1 o2) (h0 : 1 ≤ n) {E0 : sp_E} : ∀ (k : Nat) (E : sp_E) (r : Nat), sp_le n E0 E → sp_le n E0 (sp_sat0 n kd o1 o2 k E r).1 := by
  intro k
  induction k with
  | zero => intro E r hE; exact hE
  | succ k ih =>
    intro E r hE
    have hr : sp_le n E0 (sp_rd n kd o1 o2 E) := sp_le_gs hw h0 _ _ _ (by omega) hE
    unfold sp_sat0
    split
    · exact hE
    · split
      · exact ih _ _ hr
      · exact hr
theorem sp_fd_some {p : Nat → Bool} : ∀ (m v r : Nat), sp_fd p v m = some r → p r = true ∧ ∀ j, v ≤ j → j < r → p j = false := by
  intro m
  induction m with
  | zero => intro v r h; simp [sp_fd] at h
  | succ m ih =>
    intro v r h
    unfold sp_fd at h
    split at h
    · rename_i hp
      cases h
      exact ⟨hp, fun j a b => by omega⟩
    · rename_i hp
      obtain ⟨h1, h2⟩ := ih _ _ h
      refine ⟨h1, fun j a b => ?_⟩
      by_cases e : j = v
      · subst e; simpa using hp
      · exact h2 j (by omega) b
theorem sp_fd_none {p : Nat → Bool} : ∀ (m v : Nat), sp_fd p v m = none → ∀ j, v ≤ j → j < v + m → p j = false := by
  intro m
  induction m with
  | zero => intro v _ j a b; omega
  | succ m ih =>
    intro v h j a b
    unfold sp_fd at h
    split at h
    · cases h
    · rename_i hp
      by_cases e : j = v
      · subst e; simpa using hp
      · exact ih _ h j (by omega) (by omega)
/-- the least that agrees -/
theorem sp_al_spec (F G : Nat → Nat) (c : Bool) (l : Nat) : (F (sp_al F G c l) = F l ∧ (c = true ∨ G (sp_al F G c l) = G l)) ∧ ∀ j, (F j = F l ∧ (c = true ∨ G j = G l)) → sp_al F G c l ≤ j := by
  have hl := sp_al_le F G c l
  unfold sp_al at hl ⊢
  cases h : sp_fd (fun m => F m == F l && (c || G m == G l)) 0 (l + 1) with
  | none =>
    have := sp_fd_none _ _ h l (Nat.zero_le l) (by omega)
    simp at this
  | some r =>
    obtain ⟨h1, h2⟩ := sp_fd_some _ _ _ h
    rw [h] at hl
    simp at h1 hl ⊢
    refine ⟨h1, fun j a b => ?_⟩
    by_cases hj : r ≤ j
    · exact hj
    · have h3 := h2 j (Nat.zero_le j) (by omega)
      have h4 : (F j == F l && (c || G j == G l)) = true := by simp; exact ⟨a, b⟩
      rw [h4] at h3
      cases h3
theorem sp_al_va {n : Nat} {E1 E2 : sp_E} (h1 : sp_va n E1) (h2 : sp_va n E2) (b : Bool) : sp_va n (fun l => sp_al E1.1 E2.1 E2.2 l, b) := by
  intro l hl
  obtain ⟨⟨s1, s2⟩, s3⟩ := sp_al_spec E1.1 E2.1 E2.2 l
  have hle := sp_al_le E1.1 E2.1 E2.2 l
  generalize hm : sp_al E1.1 E2.1 E2.2 l = m at s1 s2 s3 hle
  show sp_al E1.1 E2.1 E2.2 l ≤ l ∧ sp_al E1.1 E2.1 E2.2 (sp_al E1.1 E2.1 E2.2 l) = sp_al E1.1 E2.1 E2.2 l ∧ sp_al E1.1 E2.1 E2.2 (l ^^^ 1) = sp_al E1.1 E2.1 E2.2 l ^^^ 1
  rw [hm]
  refine ⟨hle, ?_, ?_⟩
  · obtain ⟨⟨t1, t2⟩, t3⟩ := sp_al_spec E1.1 E2.1 E2.2 m
    have u1 := sp_al_le E1.1 E2.1 E2.2 m
    have u2 := s3 (sp_al E1.1 E2.1 E2.2 m) ⟨by rw [t1, s1], by
      rcases s2 with s2 | s2
      · exact Or.inl s2
      · rcases t2 with t2 | t2
        · exact Or.inl t2
        · exact Or.inr (by rw [t2, s2])⟩
    omega
  · obtain ⟨⟨t1, t2⟩, t3⟩ := sp_al_spec E1.1 E2.1 E2.2 (l ^^^ 1)
    have hl1 := xor1_lt hl
    have u1 := sp_al_le E1.1 E2.1 E2.2 (l ^^^ 1)
    generalize sp_al E1.1 E2.1 E2.2 (l ^^^ 1) = j at t1 t2 t3 u1
    have hjn : j < 2 * n := by omega
    have hmn : m < 2 * n := by omega
    have a1 := (h1 l hl).2.2
    have a2 := (h2 l hl).2.2
    have b1 := (h1 m hmn).2.2
    have b2 := (h2 m hmn).2.2
    have c1 := (h1 j hjn).2.2
    have c2 := (h2 j hjn).2.2
    have k1 : j ≤ m ^^^ 1 := t3 (m ^^^ 1) ⟨by rw [a1, b1, s1], by
      rcases s2 with s2 | s2
      · exact Or.inl s2
      · exact Or.inr (by rw [a2, b2, s2])⟩
    have k2 : m ≤ j ^^^ 1 := s3 (j ^^^ 1) ⟨by rw [c1, t1, a1, x1_x1], by
      rcases t2 with t2 | t2
      · exact Or.inl t2
      · exact Or.inr (by rw [c2, t2, a2, x1_x1])⟩
    have d1 := x1_div m
    have d2 := x1_div j
    have hdd : j / 2 = m / 2 := by omega
    rcases x1_eq hdd with e | e
    · exfalso
      rw [e] at t1
      rw [a1, ← s1] at t1
      exact x1_ne _ t1.symm
    · exact e
theorem sp_ag_va {n : Nat} {E E1 E2 : sp_E} (h : sp_va n E) (h1 : sp_va n E1) (h2 : sp_va n E2) : sp_va n (sp_ag E E1 E2) := by
  unfold sp_ag
  split
  · exact h
  · split
    · exact h2
    · exact sp_al_va h1 h2 _
