/-! WHAT BOTH BRANCHES AGREE ON, as the class makes it; what a saturation extends -/
theorem md_jl_le (p q u w x : Nat) : md_jl p q u w x ≤ x := by
  unfold md_jl sp_mn
  split
  · split <;> omega
  · split
    · split <;> omega
    · exact Nat.le_refl x
theorem sp_j_dn (E : sp_E) (a b l : Nat) : (sp_j E a b).1 l ≤ E.1 l := by
  unfold sp_j
  split
  · exact Nat.le_refl _
  · split
    · exact Nat.le_refl _
    · exact md_jl_le _ _ _ _ _
theorem sp_j_same {E : sp_E} {a b : Nat} (h0 : E.2 = false) (h : (sp_j E a b).2 = false) : (sp_j E a b).1 a = (sp_j E a b).1 b := by
  unfold sp_j at h ⊢
  by_cases c1 : E.1 a = E.1 b
  · rw [if_pos (Or.inr c1)]
    exact c1
  · have c0 : ¬ (E.2 = true ∨ E.1 a = E.1 b) := fun z => z.elim (fun z => by rw [h0] at z; cases z) c1
    rw [if_neg c0] at h ⊢
    by_cases c2 : E.1 a = E.1 (b ^^^ 1)
    · rw [if_pos c2] at h
      cases h
    · rw [if_neg c2]
      dsimp only
      unfold md_jl
      rw [if_pos (Or.inl rfl), if_pos (Or.inr rfl)]
/-- F's labels hold in G -/
def sp_in (n : Nat) (F G : sp_E) : Prop := ∀ l, l < 2 * n → G.1 (F.1 l) = G.1 l
theorem sp_in_M {n : Nat} {F G : sp_E} (hF : sp_va n F) (hG : sp_va n G) (h0 : G.2 = false) (h : ∀ m, sp_M n G m → sp_M n F m) : sp_in n F G := by
  intro l hl
  by_cases c : G.1 (F.1 l) = G.1 l
  · exact c
  · obtain ⟨m, hm, hne⟩ := sp_M_sep hG h0 (Nat.lt_of_le_of_lt (hF l hl).1 hl) hl c
    exact absurd ((h m hm).2 l hl).2 hne
theorem sp_in_j {n a b : Nat} {F G : sp_E} (hF : sp_va n F) (hG : sp_va n G) (hF0 : F.2 = false) (h : sp_in n F G) (ha : a < 2 * n) (hb : b < 2 * n) (e : G.1 a = G.1 b) : sp_in n (sp_j F a b) G ∧ (sp_j F a b).2 = false := by
  have hA : F.1 a < 2 * n := Nat.lt_of_le_of_lt (hF a ha).1 ha
  have hB : F.1 b < 2 * n := Nat.lt_of_le_of_lt (hF b hb).1 hb
  unfold sp_j
  by_cases c1 : F.1 a = F.1 b
  · rw [if_pos (Or.inr c1)]
    exact ⟨h, hF0⟩
  · rw [if_neg (fun z => z.elim (fun z => by rw [hF0] at z; cases z) c1)]
    by_cases c2 : F.1 a = F.1 (b ^^^ 1)
    · exfalso
      have h1 := h a ha
      rw [c2, h _ (xor1_lt hb), (hG b hb).2.2, ← e] at h1
      exact x1_ne _ h1
    · rw [if_neg c2, (hF a ha).2.2, (hF b hb).2.2]
      rw [(hF b hb).2.2] at c2
      obtain ⟨lo, hi, hlt, hor, hf⟩ := sp_jl_form c1 c2
      refine ⟨fun l hl => ?_, rfl⟩
      dsimp only
      rw [hf, ← h l hl]
      have hpq : G.1 (F.1 a) = G.1 (F.1 b) := by rw [h a ha, h b hb, e]
      have hlh : G.1 lo = G.1 hi ∧ lo < 2 * n ∧ hi < 2 * n := by
        rcases hor with ⟨e1, e2⟩ | ⟨e1, e2⟩
        · rw [e1, e2]; exact ⟨hpq, hA, hB⟩
        · rw [e1, e2]; exact ⟨hpq.symm, hB, hA⟩
      by_cases d1 : F.1 l = lo ∨ F.1 l = hi
      · rw [if_pos d1]
        rcases d1 with d | d <;> rw [d]
        exact hlh.1
      · rw [if_neg d1]
        by_cases d2 : F.1 l = lo ^^^ 1 ∨ F.1 l = hi ^^^ 1
        · rw [if_pos d2]
          rcases d2 with d | d <;> rw [d]
          rw [(hG _ hlh.2.1).2.2, (hG _ hlh.2.2).2.2, hlh.1]
        · rw [if_neg d2]
/-- v is looked at with the variables w, w + 1, .. m of them -/
abbrev cs_c (E1 E2 : sp_E) (v w : Nat) : Prop := E1.1 (2 * v) ^^^ E1.1 (2 * w) ≤ 1 ∧ E1.1 (2 * v) ^^^ E1.1 (2 * w) = E2.1 (2 * v) ^^^ E2.1 (2 * w)
def cs_uw (E1 E2 : sp_E) (v : Nat) : Nat → Nat → sp_E → sp_E
  | 0, _, F => F
  | m + 1, w, F => if ¬ F.1 (2 * v) = 2 * v then F else cs_uw E1 E2 v m (w + 1) (if cs_c E1 E2 v w then sp_j F (2 * v) (2 * w + (E1.1 (2 * v) ^^^ E1.1 (2 * w))) else F)
def cs_uc (E1 E2 : sp_E) : Nat → Nat → sp_E → sp_E
  | 0, _, F => F
  | m + 1, v, F => cs_uc E1 E2 m (v + 1) (if ¬ E1.1 (2 * v) = 2 * v ∧ ¬ E2.1 (2 * v) = 2 * v then cs_uw E1 E2 v v 0 F else F)
theorem cs_xt {p q t : Nat} : p ^^^ q = t ↔ p = q ^^^ t := by
  constructor
  · intro h
    rw [← h, ← Nat.xor_assoc, Nat.xor_comm q p, Nat.xor_assoc, Nat.xor_self, Nat.xor_zero]
  · intro h
    rw [h, Nat.xor_comm q t, Nat.xor_assoc, Nat.xor_self, Nat.xor_zero]
theorem cs_2t {w t : Nat} (ht : t ≤ 1) : 2 * w + t = (2 * w) ^^^ t := by
  have h1 : t = 0 ∨ t = 1 := by omega
  rcases h1 with e | e
  · rw [e, Nat.xor_zero]; rfl
  · rw [e]
    have := x1_div (2 * w)
    have := x1_mod (2 * w)
    omega
theorem sp_va_t {n l t : Nat} {E : sp_E} (h : sp_va n E) (hl : l < 2 * n) (ht : t ≤ 1) : E.1 (l ^^^ t) = E.1 l ^^^ t := by
  have h1 : t = 0 ∨ t = 1 := by omega
  rcases h1 with e | e
  · rw [e, Nat.xor_zero, Nat.xor_zero]
  · rw [e]
    exact (h l hl).2.2
/-- what the common joins keep -/
def cs_I (n : Nat) (E1 E2 F : sp_E) : Prop := (sp_va n F ∧ F.2 = false) ∧ sp_in n F E1 ∧ sp_in n F E2
theorem cs_c_s {n v w : Nat} {E1 E2 F : sp_E} (h1 : sp_va n E1) (h2 : sp_va n E2) (hI : cs_I n E1 E2 F) (hv : v < n) (hw : w < v) (c : cs_c E1 E2 v w) : cs_I n E1 E2 (sp_j F (2 * v) (2 * w + (E1.1 (2 * v) ^^^ E1.1 (2 * w)))) ∧ (sp_j F (2 * v) (2 * w + (E1.1 (2 * v) ^^^ E1.1 (2 * w)))).1 (2 * v) < 2 * v := by
  obtain ⟨c1, c2⟩ := c
  have e1 : E1.1 (2 * v) = E1.1 (2 * w) ^^^ (E1.1 (2 * v) ^^^ E1.1 (2 * w)) := cs_xt.mp rfl
  have e2 : E2.1 (2 * v) = E2.1 (2 * w) ^^^ (E1.1 (2 * v) ^^^ E1.1 (2 * w)) := cs_xt.mp c2.symm
  generalize E1.1 (2 * v) ^^^ E1.1 (2 * w) = t at c1 e1 e2
  have g1 : E1.1 (2 * v) = E1.1 (2 * w + t) := by rw [cs_2t c1, sp_va_t h1 (by omega) c1, ← e1]
  have g2 : E2.1 (2 * v) = E2.1 (2 * w + t) := by rw [cs_2t c1, sp_va_t h2 (by omega) c1, ← e2]
  have hl : 2 * w + t < 2 * n := by omega
  have k1 := sp_in_j hI.1.1 h1 hI.1.2 hI.2.1 (by omega : 2 * v < 2 * n) hl g1
  have k2 := sp_in_j hI.1.1 h2 hI.1.2 hI.2.2 (by omega : 2 * v < 2 * n) hl g2
  have hva := (sp_j_va hI.1.1 (by omega : 2 * v < 2 * n) hl).1
  refine ⟨⟨⟨hva, k1.2⟩, k1.1, k2.1⟩, ?_⟩
  rw [sp_j_same hI.1.2 k1.2]
  have := (hva _ hl).1
  omega
theorem cs_uw_I {n v : Nat} {E1 E2 : sp_E} (h1 : sp_va n E1) (h2 : sp_va n E2) (hv : v < n) : ∀ (m w : Nat) (F : sp_E), w + m = v → cs_I n E1 E2 F → cs_I n E1 E2 (cs_uw E1 E2 v m w F) ∧ (∀ l, (cs_uw E1 E2 v m w F).1 l ≤ F.1 l) ∧ ((∃ u, w ≤ u ∧ u < v ∧ cs_c E1 E2 v u) → (cs_uw E1 E2 v m w F).1 (2 * v) < 2 * v) := by
  intro m
  induction m with
  | zero => intro w F hw hI; exact ⟨hI, fun l => Nat.le_refl _, fun ⟨u, a, b, _⟩ => by omega⟩
  | succ m ih =>
    intro w F hw hI
    unfold cs_uw
    by_cases c : F.1 (2 * v) = 2 * v
    · rw [if_neg (fun z => z c)]
      by_cases d : cs_c E1 E2 v w
      · rw [if_pos d]
        obtain ⟨k1, k2⟩ := cs_c_s h1 h2 hI hv (by omega) d
        obtain ⟨i1, i2, i3⟩ := ih (w + 1) _ (by omega) k1
        refine ⟨i1, fun l => Nat.le_trans (i2 l) (sp_j_dn F _ _ l), fun _ => ?_⟩
        exact Nat.lt_of_le_of_lt (i2 _) k2
      · rw [if_neg d]
        obtain ⟨i1, i2, i3⟩ := ih (w + 1) F (by omega) hI
        refine ⟨i1, i2, fun ⟨u, a, b, e⟩ => i3 ⟨u, ?_, b, e⟩⟩
        by_cases z : w = u
        · subst z; exact absurd e d
        · omega
    · rw [if_pos c]
      refine ⟨hI, fun l => Nat.le_refl _, fun _ => ?_⟩
      have := (hI.1.1 (2 * v) (by omega)).1
      omega
theorem sp_al_cg {F G : Nat → Nat} {c : Bool} {l k : Nat} (h1 : F l = F k) (h2 : G l = G k) : sp_al F G c l = sp_al F G c k := by
  obtain ⟨a1, a2⟩ := sp_al_spec F G c l
  obtain ⟨b1, b2⟩ := sp_al_spec F G c k
  have := a2 (sp_al F G c k) ⟨b1.1.trans h1.symm, b1.2.imp id (fun z => z.trans h2.symm)⟩
  have := b2 (sp_al F G c l) ⟨a1.1.trans h1, a1.2.imp id (fun z => z.trans h2)⟩
  omega
theorem cs_uc_I {n : Nat} {E1 E2 : sp_E} (h1 : sp_va n E1) (h2 : sp_va n E2) (b2 : E2.2 = false) : ∀ (m v : Nat) (F : sp_E), v + m = n → cs_I n E1 E2 F → (∀ u, u < v → F.1 (2 * u) = sp_al E1.1 E2.1 false (2 * u)) → cs_I n E1 E2 (cs_uc E1 E2 m v F) ∧ ∀ u, u < n → (cs_uc E1 E2 m v F).1 (2 * u) = sp_al E1.1 E2.1 false (2 * u) := by
  have hal : sp_va n (fun l => sp_al E1.1 E2.1 false l, false) := by
    have := sp_al_va h1 h2 false
    rw [b2] at this
    exact this
  have low : ∀ F, cs_I n E1 E2 F → ∀ l, l < 2 * n → sp_al E1.1 E2.1 false l ≤ F.1 l := fun F hI l hl => (sp_al_spec E1.1 E2.1 false l).2 _ ⟨hI.2.1 l hl, Or.inr (hI.2.2 l hl)⟩
  intro m
  induction m with
  | zero => intro v F hv hI hd; exact ⟨hI, fun u hu => hd u (by omega)⟩
  | succ m ih =>
    intro v F hv hI hd
    unfold cs_uc
    have hvn : 2 * v < 2 * n := by omega
    have hp := sp_al_spec E1.1 E2.1 false (2 * v)
    have hple := sp_al_le E1.1 E2.1 false (2 * v)
    have hpg : E1.1 (sp_al E1.1 E2.1 false (2 * v)) = E1.1 (2 * v) ∧ E2.1 (sp_al E1.1 E2.1 false (2 * v)) = E2.1 (2 * v) := ⟨hp.1.1, hp.1.2.resolve_left (by decide)⟩
    -- a state that keeps the invariant, lies below F, and is below v unless p is v itself, is right at v
    have fin : ∀ G, cs_I n E1 E2 G → (∀ l, G.1 l ≤ F.1 l) → (sp_al E1.1 E2.1 false (2 * v) < 2 * v → G.1 (2 * v) < 2 * v) → ∀ u, u < v + 1 → G.1 (2 * u) = sp_al E1.1 E2.1 false (2 * u) := by
      intro G hG hGF hlt
      have old : ∀ u, u < v → G.1 (2 * u) = sp_al E1.1 E2.1 false (2 * u) := fun u hu => by
        have := hGF (2 * u)
        rw [hd u hu] at this
        exact Nat.le_antisymm this (low G hG _ (by omega))
      intro u hu
      by_cases e : u = v
      · subst e
        by_cases c : G.1 (2 * u) < 2 * u
        · have q1 := (hG.1.1 (2 * u) hvn).2.1
          have ql : G.1 (2 * u) < 2 * n := by omega
          have qa : sp_al E1.1 E2.1 false (G.1 (2 * u)) = sp_al E1.1 E2.1 false (2 * u) := sp_al_cg (hG.2.1 _ hvn) (hG.2.2 _ hvn)
          rw [← qa]
          have hu2 : G.1 (2 * u) / 2 < u := by omega
          have o := old _ hu2
          generalize hq : G.1 (2 * u) = q at *
          have h2q : 2 * (q / 2) < 2 * n := by omega
          rcases Nat.mod_two_eq_zero_or_one q with e0 | e0
          · have e1 : 2 * (q / 2) = q := by omega
            rw [e1] at o
            rw [← o, q1]
          · have e1 : 2 * (q / 2) ^^^ 1 = q := by
              have := x1_div (2 * (q / 2))
              have := x1_mod (2 * (q / 2))
              omega
            have f1 := (hG.1.1 _ h2q).2.2
            have f2 := (hal _ h2q).2.2
            rw [e1] at f1 f2
            dsimp only at f2
            rw [f2, ← o, ← f1, q1]
        · have hle := (hG.1.1 (2 * u) hvn).1
          have : ¬ sp_al E1.1 E2.1 false (2 * u) < 2 * u := fun z => c (hlt z)
          omega
      · exact old u (by omega)
    by_cases c : ¬ E1.1 (2 * v) = 2 * v ∧ ¬ E2.1 (2 * v) = 2 * v
    · rw [if_pos c]
      obtain ⟨i1, i2, i3⟩ := cs_uw_I h1 h2 (by omega : v < n) v 0 F (by omega) hI
      refine ih (v + 1) _ (by omega) i1 (fin _ i1 i2 (fun hlt => i3 ⟨sp_al E1.1 E2.1 false (2 * v) / 2, Nat.zero_le _, by omega, ?_⟩))
      generalize sp_al E1.1 E2.1 false (2 * v) = p at *
      have ht : p % 2 ≤ 1 := by omega
      have ep : p = (2 * (p / 2)) ^^^ (p % 2) := by rw [← cs_2t ht]; omega
      have x1 : E1.1 (2 * v) ^^^ E1.1 (2 * (p / 2)) = p % 2 := by
        rw [cs_xt, ← hpg.1]
        conv => lhs; rw [ep]
        rw [sp_va_t h1 (by omega) ht]
      have x2 : E2.1 (2 * v) ^^^ E2.1 (2 * (p / 2)) = p % 2 := by
        rw [cs_xt, ← hpg.2]
        conv => lhs; rw [ep]
        rw [sp_va_t h2 (by omega) ht]
      exact ⟨by rw [x1]; exact ht, by rw [x1, x2]⟩
    · rw [if_neg c]
      refine ih (v + 1) F (by omega) hI (fin F hI (fun l => Nat.le_refl _) (fun hlt => ?_))
      exfalso
      apply c
      have a1 := (h1 _ (Nat.lt_trans hlt hvn)).1
      have a2 := (h2 _ (Nat.lt_trans hlt hvn)).1
      rw [hpg.1] at a1
      rw [hpg.2] at a2
      exact ⟨by omega, by omega⟩
/-- the class's common joins come to what both branches agree on -/
theorem cs_uc_eq {n : Nat} {E E1 E2 : sp_E} (h0 : 1 ≤ n) (hE : sp_va n E) (h1 : sp_va n E1) (h2 : sp_va n E2) (b0 : E.2 = false) (b1 : E1.2 = false) (b2 : E2.2 = false) (i1 : sp_in n E E1) (i2 : sp_in n E E2) : sp_eq n (cs_uc E1 E2 (n - 1) 1 E) (sp_ag E E1 E2) ∧ sp_va n (cs_uc E1 E2 (n - 1) 1 E) := by
  obtain ⟨a, b⟩ := cs_uc_I h1 h2 b2 (n - 1) 1 E (by omega) ⟨⟨hE, b0⟩, i1, i2⟩ (fun u hu => by
    have e : u = 0 := by omega
    subst e
    have := (hE 0 (by omega)).1
    have := sp_al_le E1.1 E2.1 false 0
    show E.1 0 = sp_al E1.1 E2.1 false 0
    omega)
  refine ⟨?_, a.1.1⟩
  have hal : sp_va n (fun l => sp_al E1.1 E2.1 false l, false) := by
    have := sp_al_va h1 h2 false
    rw [b2] at this
    exact this
  have e : sp_ag E E1 E2 = (fun l => sp_al E1.1 E2.1 false l, false) := by
    unfold sp_ag
    rw [if_neg (by simp [b1]), if_neg (by simp [b1]), b2, b0]
  rw [e]
  refine ⟨a.1.2, fun _ l hl => ?_⟩
  rcases Nat.mod_two_eq_zero_or_one l with e0 | e0
  · have e1 : 2 * (l / 2) = l := by omega
    have := b (l / 2) (by omega)
    rw [e1] at this
    exact this
  · have h2q : 2 * (l / 2) < 2 * n := by omega
    have e1 : 2 * (l / 2) ^^^ 1 = l := by
      have := x1_div (2 * (l / 2))
      have := x1_mod (2 * (l / 2))
      omega
    have f1 := (a.1.1 _ h2q).2.2
    have f2 := (hal _ h2q).2.2
    rw [e1] at f1 f2
    dsimp only at f2 ⊢
    rw [f1, f2, b (l / 2) (by omega)]
/-- F holds all that E holds -/
def sp_sb (n : Nat) (E F : sp_E) : Prop := ∀ m, sp_M n F m → sp_M n E m
theorem sp_sb_j {n a b : Nat} {E : sp_E} (h : sp_va n E) (ha : a < 2 * n) (hb : b < 2 * n) : sp_sb n E (sp_j E a b) := fun m hm => ((sp_M_j h ha hb m).mp hm).1
theorem sp_sb_tr {n : Nat} {E F G : sp_E} (h : sp_sb n E F) (h2 : sp_sb n F G) : sp_sb n E G := fun m hm => h m (h2 m hm)
/-- when one branch is a contradiction -/
theorem sp_ag_1 {n : Nat} {E E1 E2 : sp_E} (h1 : sp_va n E1) (b0 : E.2 = false) (b1 : E1.2 = false) (b2 : E2.2 = true) : sp_eq n E1 (sp_ag E E1 E2) := by
  unfold sp_ag
  rw [if_neg (by simp [b1]), if_neg (by simp [b1]), b2]
  refine ⟨by rw [b1, b0], fun _ l hl => ?_⟩
  obtain ⟨a, b⟩ := sp_al_spec E1.1 E2.1 true l
  have hl2 : E1.1 l < 2 * n := Nat.lt_of_le_of_lt (h1 l hl).1 hl
  have x := b (E1.1 l) ⟨(h1 l hl).2.1, Or.inl rfl⟩
  have y := (h1 _ (Nat.lt_of_le_of_lt x hl2)).1
  rw [a.1] at y
  dsimp only
  omega
theorem sp_sb_ag {n : Nat} {E E1 E2 : sp_E} (hE : sp_va n E) (h1 : sp_va n E1) (h2 : sp_va n E2) (b0 : E.2 = false) (i1 : sp_sb n E E1) (i2 : sp_sb n E E2) : sp_sb n E (sp_ag E E1 E2) := by
  by_cases b1 : E1.2 = true
  · by_cases b2 : E2.2 = true
    · intro m hm
      unfold sp_ag at hm
      rw [if_pos ⟨b1, b2⟩] at hm
      cases hm.1
    · have e : sp_ag E E1 E2 = E2 := by
        unfold sp_ag
        rw [if_neg (fun z => b2 z.2), if_pos b1]
      rw [e]
      exact i2
  · have b1' : E1.2 = false := by simpa using b1
    by_cases b2 : E2.2 = true
    · have := sp_ag_1 (E := E) h1 b0 b1' b2
      exact fun m hm => i1 m ((sp_M_eq this m).mpr hm)
    · have b2' : E2.2 = false := by simpa using b2
      have j1 := sp_in_M hE h1 b1' i1
      have j2 := sp_in_M hE h2 b2' i2
      intro m hm
      have e : sp_ag E E1 E2 = (fun l => sp_al E1.1 E2.1 false l, false) := by
        unfold sp_ag
        rw [if_neg (by simp [b1]), if_neg b1, b2', b0]
      rw [e] at hm
      refine ⟨b0, fun l hl => ⟨(hm.2 l hl).1, ?_⟩⟩
      have hl2 : E.1 l < 2 * n := Nat.lt_of_le_of_lt (hE l hl).1 hl
      have x := (hm.2 _ hl2).2
      have y := (hm.2 l hl).2
      dsimp only at x y
      rw [sp_al_cg (j1 l hl) (j2 l hl)] at x
      rw [← x, y]
