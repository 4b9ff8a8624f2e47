/-! READING: the grammar as one function; what it keeps -/
def sp_sgv (lv : Nat) : Int32 := if lv = 4 then 38 else if lv = 3 then 94 else if lv = 2 then 124 else 261
def sp_cmb (lv v w a : Nat) (s : sp_P) : Nat × sp_P := if lv = 4 then sp_cb 2 v w 0 a s else if lv = 3 then sp_cb 3 v w 1 a s else if lv = 2 then sp_cb 2 (v ^^^ 1) (w ^^^ 1) 1 a s else if lv = 1 then sp_cb 2 v (w ^^^ 1) 1 a s else sp_cb 3 v w 0 a s
/-- one more is open behind the token; one less is open -/
def sp_opn (x : sp_X) (s : sp_P) : sp_P := (tS x s + tZ x s, s.2.1, pO s + 1, pC s)
def sp_cls1 (s : sp_P) : sp_P := (s.1, s.2.1, pO s - 1, pC s)
/-- level lv (0 formula, 1 imp, 2 or, 3 xor, 4 and, 5 not) read: from its beginning (none), or behind what is v -/
def sp_pr (x : sp_X) : Nat → Nat → Option Nat → sp_P → Nat × sp_P
  | 0, _, _, s => (0, s)
  | f + 1, lv, none, s => if lv = 5 then
      (if ¬ pF (sp_look x s) = 0 then (0, sp_look x s)
       else if tK x s = 126 then (if pO s = 40 then (0, sp_fail s 3 (tS x s)) else ((sp_pr x f 5 none (sp_opn x s)).1 ^^^ 1, sp_cls1 (sp_pr x f 5 none (sp_opn x s)).2))
       else if tK x s = 40 then (if pO s = 40 then (0, sp_fail s 3 (tS x s)) else
         if ¬ pF (sp_pr x f 0 none (sp_opn x s)).2 = 0 then (0, (sp_pr x f 0 none (sp_opn x s)).2) else
         if ¬ pF (sp_look x (sp_pr x f 0 none (sp_opn x s)).2) = 0 then (0, sp_look x (sp_pr x f 0 none (sp_opn x s)).2) else
         if tK x (sp_pr x f 0 none (sp_opn x s)).2 = 41 then ((sp_pr x f 0 none (sp_opn x s)).1, sp_cls1 (sp_pass x (sp_pr x f 0 none (sp_opn x s)).2)) else (0, sp_fail (sp_pr x f 0 none (sp_opn x s)).2 2 (tS x (sp_pr x f 0 none (sp_opn x s)).2)))
       else if tK x s = 257 then ((sp_name x s).1, sp_pass x (sp_name x s).2)
       else if tK x s = 258 then (0, sp_pass x s) else if tK x s = 259 then (1, sp_pass x s) else (0, sp_fail s 2 (tS x s)))
    else if ¬ pF (sp_pr x f (lv + 1) none s).2 = 0 then (0, (sp_pr x f (lv + 1) none s).2) else sp_pr x f lv (some (sp_pr x f (lv + 1) none s).1) (sp_pr x f (lv + 1) none s).2
  | f + 1, lv, some v, s => if ¬ pF (sp_look x s) = 0 then (0, sp_look x s)
      else if lv = 1 then (if tK x s = 260 then (if pO s = 40 then (0, sp_fail s 3 (tS x s)) else
           if ¬ pF (sp_pr x f 1 none (sp_opn x s)).2 = 0 then (0, (sp_pr x f 1 none (sp_opn x s)).2) else sp_cmb 1 v (sp_pr x f 1 none (sp_opn x s)).1 (tS x s) (sp_cls1 (sp_pr x f 1 none (sp_opn x s)).2))
         else (v, s))
      else if tK x s = sp_sgv lv then
        (if ¬ pF (sp_pr x f (lv + 1) none (sp_pass x s)).2 = 0 then (0, (sp_pr x f (lv + 1) none (sp_pass x s)).2) else
         if ¬ pF (sp_cmb lv v (sp_pr x f (lv + 1) none (sp_pass x s)).1 (tS x s) (sp_pr x f (lv + 1) none (sp_pass x s)).2).2 = 0 then (0, (sp_cmb lv v (sp_pr x f (lv + 1) none (sp_pass x s)).1 (tS x s) (sp_pr x f (lv + 1) none (sp_pass x s)).2).2)
         else sp_pr x f lv (some (sp_cmb lv v (sp_pr x f (lv + 1) none (sp_pass x s)).1 (tS x s) (sp_pr x f (lv + 1) none (sp_pass x s)).2).1) (sp_cmb lv v (sp_pr x f (lv + 1) none (sp_pass x s)).1 (tS x s) (sp_pr x f (lv + 1) none (sp_pass x s)).2).2)
      else (v, s)
theorem sp_fail_ok {x : sp_X} {n0 : Nat} {s : sp_P} (h : sp_pok x n0 s) (k a : Nat) : sp_pok x n0 (sp_fail s k a) := by
  unfold sp_fail
  split
  · exact h
  · exact h
theorem sp_fail_f {s : sp_P} {k a : Nat} (hk : ¬ k = 0) : ¬ pF (sp_fail s k a) = 0 := by
  unfold sp_fail
  split
  · exact hk
  · assumption
theorem sp_fail_c (s : sp_P) (k a : Nat) : pC (sp_fail s k a) = pC s := by
  unfold sp_fail
  split <;> rfl
theorem sp_look_0 {x : sp_X} {s : sp_P} (h0 : pF (sp_look x s) = 0) : sp_look x s = s ∧ ¬ tK x s = 262 := by
  unfold sp_look at h0 ⊢
  by_cases h : tK x s = 262
  · rw [if_pos h] at h0
    exact absurd h0 (sp_fail_f (by decide))
  · rw [if_neg h]
    exact ⟨rfl, h⟩
theorem sp_look_ok {x : sp_X} {n0 : Nat} {s : sp_P} (h : sp_pok x n0 s) : sp_pok x n0 (sp_look x s) := by
  unfold sp_look
  split
  · exact sp_fail_ok h _ _
  · exact h
theorem sp_look_c (x : sp_X) (s : sp_P) : pC (sp_look x s) = pC s := by
  unfold sp_look
  split
  · exact sp_fail_c _ _ _
  · rfl
theorem sp_pass_ok {x : sp_X} {n0 : Nat} {s : sp_P} (h : sp_pok x n0 s) : sp_pok x n0 (sp_pass x s) := ⟨h.1, h.2.1, (sp_tw_sz (sp_ts_le h.2.2.1).2).1, h.2.2.2⟩
/-- a token that is not the end moves on -/
theorem sp_tok_lt {x : sp_X} {n0 : Nat} {s : sp_P} (h : sp_pok x n0 s) (hk : ¬ tK x s = 256) : s.1 + 1 ≤ tS x s + tZ x s := by
  have h1 := sp_ts_le h.2.2.1
  obtain ⟨-, h2, h3⟩ := sp_tw_sz h1.2
  have := h3 (fun z => hk (h2.mpr z))
  have h4 : s.1 ≤ tS x s := h1.1
  have h5 : 1 ≤ tZ x s := this
  omega
theorem sp_cb_ok {x : sp_X} {n0 k a b t at' : Nat} {s : sp_P} (h : sp_pok x n0 s) (h0 : pF s = 0) (hk : k = 2 ∨ k = 3) (ha : a < 2 * cN (pC s)) (hb : b < 2 * cN (pC s)) (ht : t < 2) : sp_pok x n0 (sp_cb k a b t at' s).2 ∧ cN (pC s) ≤ cN (pC (sp_cb k a b t at' s).2) ∧ (pF (sp_cb k a b t at' s).2 = 0 → (sp_cb k a b t at' s).1 < 2 * cN (pC (sp_cb k a b t at' s).2) ∧ pO (sp_cb k a b t at' s).2 = pO s ∧ s.1 ≤ (sp_cb k a b t at' s).2.1) := by
  obtain ⟨g1, g2, g3⟩ := sp_gt_ok h.1 hk ha hb
  have hp : sp_pok x n0 (s.1, s.2.1, pO s, (sp_gt (pC s) k a b).2) := ⟨g1, Nat.le_trans h.2.1 g2, h.2.2⟩
  unfold sp_cb
  cases hs : (sp_gt (pC s) k a b).1 with
  | none =>
    refine ⟨sp_fail_ok hp _ _, ?_, fun z => absurd z (sp_fail_f (by decide))⟩
    dsimp only
    rw [sp_fail_c]
    exact g2
  | some l => exact ⟨hp, g2, fun _ => ⟨xort_lt (g3 l hs) ht, rfl, Nat.le_refl _⟩⟩
theorem sp_cmb_ok {x : sp_X} {n0 lv v w a : Nat} {s : sp_P} (h : sp_pok x n0 s) (h0 : pF s = 0) (hv : v < 2 * cN (pC s)) (hw : w < 2 * cN (pC s)) : sp_pok x n0 (sp_cmb lv v w a s).2 ∧ cN (pC s) ≤ cN (pC (sp_cmb lv v w a s).2) ∧ (pF (sp_cmb lv v w a s).2 = 0 → (sp_cmb lv v w a s).1 < 2 * cN (pC (sp_cmb lv v w a s).2) ∧ pO (sp_cmb lv v w a s).2 = pO s ∧ s.1 ≤ (sp_cmb lv v w a s).2.1) := by
  unfold sp_cmb
  split
  · exact sp_cb_ok h h0 (Or.inl rfl) hv hw (by decide)
  · split
    · exact sp_cb_ok h h0 (Or.inr rfl) hv hw (by decide)
    · split
      · exact sp_cb_ok h h0 (Or.inl rfl) (xor1_lt hv) (xor1_lt hw) (by decide)
      · split
        · exact sp_cb_ok h h0 (Or.inl rfl) hv (xor1_lt hw) (by decide)
        · exact sp_cb_ok h h0 (Or.inr rfl) hv hw (by decide)
theorem sp_name_ok {x : sp_X} {n0 : Nat} {s : sp_P} (h : sp_pok x n0 s) (hk : tK x s = 257) : sp_pok x n0 (sp_name x s).2 ∧ cN (pC s) ≤ cN (pC (sp_name x s).2) ∧ (sp_name x s).2.1 = s.1 ∧ (pF (sp_name x s).2 = 0 → (sp_name x s).1 < 2 * cN (pC (sp_name x s).2) ∧ pO (sp_name x s).2 = pO s) := by
  have hz := sp_tw_257 hk
  have h1 := h.1.1.2.1
  have h2 := h.1.1.2.2
  have hf1 : ∀ k a, (sp_fail s k a).1 = s.1 := fun k a => by unfold sp_fail; split <;> rfl
  unfold sp_name
  cases hs : sp_inp (pC s) x (tS x s) (tZ x s) with
  | some i =>
    have hi := sp_fd_lt _ _ _ hs
    have := (h.1.2.2.2 i (by omega)).1
    exact ⟨h, Nat.le_refl _, rfl, fun _ => ⟨by show 2 * cV (pC s) i < 2 * cN (pC s); omega, rfl⟩⟩
  | none =>
    dsimp only
    by_cases c1 : cI (pC s) = 24
    · rw [if_pos c1]
      exact ⟨sp_fail_ok h _ _, by dsimp only; rw [sp_fail_c]; exact Nat.le_refl _, hf1 _ _, fun z => absurd z (sp_fail_f (by decide))⟩
    · rw [if_neg c1]
      by_cases c2 : cN (pC s) = 120
      · rw [if_pos c2]
        exact ⟨sp_fail_ok h _ _, by dsimp only; rw [sp_fail_c]; exact Nat.le_refl _, hf1 _ _, fun z => absurd z (sp_fail_f (by decide))⟩
      · rw [if_neg c2]
        refine ⟨⟨sp_ai_ok h.1 (by omega) (by omega) hz, Nat.le_succ_of_le h.2.1, h.2.2⟩, Nat.le_succ _, rfl, fun _ => ⟨?_, rfl⟩⟩
        show 2 * cN (pC s) < 2 * (cN (pC s) + 1)
        omega
/-- what reading keeps, with enough fuel -/
def sp_prok (x : sp_X) (n0 : Nat) (f : Nat) : Prop := ∀ (lv : Nat) (m : Option Nat) (s : sp_P), sp_pok x n0 s → pF s = 0 → lv ≤ 5 → (m = none → 8 * (x.2 - s.1) + 7 - lv ≤ f) → (∀ v, m = some v → lv < 5 ∧ v < 2 * cN (pC s) ∧ 8 * (x.2 - s.1) + 7 ≤ f) → sp_pok x n0 (sp_pr x f lv m s).2 ∧ cN (pC s) ≤ cN (pC (sp_pr x f lv m s).2) ∧ (pF (sp_pr x f lv m s).2 = 0 → (sp_pr x f lv m s).1 < 2 * cN (pC (sp_pr x f lv m s).2) ∧ pO (sp_pr x f lv m s).2 = pO s ∧ s.1 ≤ (sp_pr x f lv m s).2.1 ∧ (m = none → s.1 + 1 ≤ (sp_pr x f lv m s).2.1))
theorem sp_opn_ok {x : sp_X} {n0 : Nat} {s : sp_P} (h : sp_pok x n0 s) (ho : ¬ pO s = 40) : sp_pok x n0 (sp_opn x s) := ⟨h.1, h.2.1, (sp_tw_sz (sp_ts_le h.2.2.1).2).1, by show pO s + 1 ≤ 40; have := h.2.2.2.1; omega, h.2.2.2.2⟩
theorem sp_cls1_ok {x : sp_X} {n0 : Nat} {s : sp_P} (h : sp_pok x n0 s) : sp_pok x n0 (sp_cls1 s) := ⟨h.1, h.2.1, h.2.2.1, by show pO s - 1 ≤ 40; have := h.2.2.2.1; omega, h.2.2.2.2⟩
theorem sp_pr_ok (x : sp_X) (n0 : Nat) : ∀ f, sp_prok x n0 f := by
  intro f
  induction f with
  | zero =>
    intro lv m s h h0 hlv hf hs
    cases m with
    | none => have := hf rfl; omega
    | some v => have := (hs v rfl).2.2; omega
  | succ f ih =>
    intro lv m s h h0 hlv hf hs
    have hpos := h.2.2.1
    cases m with
    | none =>
      have hf := hf rfl
      unfold sp_pr
      by_cases l5 : lv = 5
      · rw [if_pos l5]
        by_cases hl : pF (sp_look x s) = 0
        · rw [if_neg (fun z => z hl)]
          obtain ⟨el, nl⟩ := sp_look_0 hl
          have hne : ∀ k : Int32, tK x s = k → ¬ k = 256 → s.1 + 1 ≤ tS x s + tZ x s := fun k e1 e2 => sp_tok_lt h (by rw [e1]; exact e2)
          have htl : tS x s + tZ x s ≤ x.2 := (sp_tw_sz (sp_ts_le h.2.2.1).2).1
          by_cases c1 : tK x s = 126
          · rw [if_pos c1]
            have hm := hne _ c1 (by decide)
            by_cases co : pO s = 40
            · rw [if_pos co]
              exact ⟨sp_fail_ok h _ _, by dsimp only; rw [sp_fail_c]; exact Nat.le_refl _, fun z => absurd z (sp_fail_f (by decide))⟩
            · rw [if_neg co]
              obtain ⟨r1, r2, r3⟩ := ih 5 none (sp_opn x s) (sp_opn_ok h co) h0 (by decide) (fun _ => by show 8 * (x.2 - (tS x s + tZ x s)) + 7 - 5 ≤ f; omega) (fun v hv => by cases hv)
              refine ⟨sp_cls1_ok r1, r2, fun z => ?_⟩
              obtain ⟨q1, q2, q3, q4⟩ := r3 z
              have q5 : tS x s + tZ x s ≤ (sp_pr x f 5 none (sp_opn x s)).2.1 := q3
              refine ⟨xor1_lt q1, ?_, ?_, fun _ => ?_⟩
              · show pO (sp_pr x f 5 none (sp_opn x s)).2 - 1 = pO s
                rw [q2]
                show pO s + 1 - 1 = pO s
                omega
              · show s.1 ≤ (sp_pr x f 5 none (sp_opn x s)).2.1
                omega
              · show s.1 + 1 ≤ (sp_pr x f 5 none (sp_opn x s)).2.1
                omega
          · rw [if_neg c1]
            by_cases c2 : tK x s = 40
            · rw [if_pos c2]
              have hm := hne _ c2 (by decide)
              by_cases co : pO s = 40
              · rw [if_pos co]
                exact ⟨sp_fail_ok h _ _, by dsimp only; rw [sp_fail_c]; exact Nat.le_refl _, fun z => absurd z (sp_fail_f (by decide))⟩
              · rw [if_neg co]
                obtain ⟨r1, r2, r3⟩ := ih 0 none (sp_opn x s) (sp_opn_ok h co) h0 (by decide) (fun _ => by show 8 * (x.2 - (tS x s + tZ x s)) + 7 - 0 ≤ f; omega) (fun v hv => by cases hv)
                generalize sp_pr x f 0 none (sp_opn x s) = r at r1 r2 r3
                by_cases cf : pF r.2 = 0
                · rw [if_neg (fun z => z cf)]
                  obtain ⟨q1, q2, q3, q4⟩ := r3 cf
                  have q5 : tS x s + tZ x s ≤ r.2.1 := q3
                  by_cases cl : pF (sp_look x r.2) = 0
                  · rw [if_neg (fun z => z cl)]
                    by_cases ct : tK x r.2 = 41
                    · rw [if_pos ct]
                      have hm2 := sp_tok_lt r1 (by rw [ct]; decide)
                      refine ⟨sp_cls1_ok (sp_pass_ok r1), r2, fun z => ⟨q1, ?_, ?_, fun _ => ?_⟩⟩
                      · show pO r.2 - 1 = pO s
                        rw [q2]
                        show pO s + 1 - 1 = pO s
                        omega
                      · show s.1 ≤ tS x r.2 + tZ x r.2
                        omega
                      · show s.1 + 1 ≤ tS x r.2 + tZ x r.2
                        omega
                    · rw [if_neg ct]
                      exact ⟨sp_fail_ok r1 _ _, by dsimp only; rw [sp_fail_c]; exact r2, fun z => absurd z (sp_fail_f (by decide))⟩
                  · rw [if_pos cl]
                    exact ⟨sp_look_ok r1, by dsimp only; rw [sp_look_c]; exact r2, fun z => absurd z cl⟩
                · rw [if_pos cf]
                  exact ⟨r1, r2, fun z => absurd z cf⟩
            · rw [if_neg c2]
              by_cases c3 : tK x s = 257
              · rw [if_pos c3]
                have hm := hne _ c3 (by decide)
                obtain ⟨r1, r2, r3, r4⟩ := sp_name_ok h c3
                refine ⟨sp_pass_ok r1, r2, fun z => ?_⟩
                obtain ⟨q1, q2⟩ := r4 z
                have e1 : (sp_pass x (sp_name x s).2).1 = tS x s + tZ x s := by
                  show sp_ts x (sp_name x s).2.1 + (sp_tw x (sp_ts x (sp_name x s).2.1)).2 = _
                  rw [r3]
                refine ⟨q1, q2, ?_, fun _ => ?_⟩
                · dsimp only; rw [e1]; omega
                · dsimp only; rw [e1]; omega
              · rw [if_neg c3]
                by_cases c4 : tK x s = 258
                · rw [if_pos c4]
                  have hm := hne _ c4 (by decide)
                  have h1 := h.1.1.1
                  exact ⟨sp_pass_ok h, Nat.le_refl _, fun _ => ⟨by show 0 < 2 * cN (pC s); omega, rfl, by show s.1 ≤ tS x s + tZ x s; omega, fun _ => hm⟩⟩
                · rw [if_neg c4]
                  by_cases c5 : tK x s = 259
                  · rw [if_pos c5]
                    have hm := hne _ c5 (by decide)
                    have h1 := h.1.1.1
                    exact ⟨sp_pass_ok h, Nat.le_refl _, fun _ => ⟨by show 1 < 2 * cN (pC s); omega, rfl, by show s.1 ≤ tS x s + tZ x s; omega, fun _ => hm⟩⟩
                  · rw [if_neg c5]
                    exact ⟨sp_fail_ok h _ _, by dsimp only; rw [sp_fail_c]; exact Nat.le_refl _, fun z => absurd z (sp_fail_f (by decide))⟩
        · rw [if_pos hl]
          exact ⟨sp_look_ok h, by dsimp only; rw [sp_look_c]; exact Nat.le_refl _, fun z => absurd z hl⟩
      · rw [if_neg l5]
        obtain ⟨r1, r2, r3⟩ := ih (lv + 1) none s h h0 (by omega) (fun _ => by omega) (fun v hv => by cases hv)
        generalize sp_pr x f (lv + 1) none s = r at r1 r2 r3
        by_cases cf : pF r.2 = 0
        · rw [if_neg (fun z => z cf)]
          obtain ⟨q1, q2, q3, q4⟩ := r3 cf
          have q5 := q4 rfl
          have hr := r1.2.2.1
          obtain ⟨u1, u2, u3⟩ := ih lv (some r.1) r.2 r1 cf hlv (fun z => by cases z) (fun v hv => by cases hv; exact ⟨by omega, q1, by omega⟩)
          refine ⟨u1, Nat.le_trans r2 u2, fun z => ?_⟩
          obtain ⟨w1, w2, w3, w4⟩ := u3 z
          exact ⟨w1, w2.trans q2, by omega, fun _ => by omega⟩
        · rw [if_pos cf]
          exact ⟨r1, r2, fun z => absurd z cf⟩
    | some v =>
      obtain ⟨hs1, hs2, hs3⟩ := hs v rfl
      unfold sp_pr
      by_cases hl : pF (sp_look x s) = 0
      · rw [if_neg (fun z => z hl)]
        have htl : tS x s + tZ x s ≤ x.2 := (sp_tw_sz (sp_ts_le h.2.2.1).2).1
        have same : sp_pok x n0 s ∧ cN (pC s) ≤ cN (pC s) ∧ (pF s = 0 → v < 2 * cN (pC s) ∧ pO s = pO s ∧ s.1 ≤ s.1 ∧ (some v = none → s.1 + 1 ≤ s.1)) := ⟨h, Nat.le_refl _, fun _ => ⟨hs2, rfl, Nat.le_refl _, fun z => by cases z⟩⟩
        by_cases l1 : lv = 1
        · rw [if_pos l1]
          by_cases c1 : tK x s = 260
          · rw [if_pos c1]
            have hm := sp_tok_lt h (by rw [c1]; decide)
            by_cases co : pO s = 40
            · rw [if_pos co]
              exact ⟨sp_fail_ok h _ _, by dsimp only; rw [sp_fail_c]; exact Nat.le_refl _, fun z => absurd z (sp_fail_f (by decide))⟩
            · rw [if_neg co]
              obtain ⟨r1, r2, r3⟩ := ih 1 none (sp_opn x s) (sp_opn_ok h co) h0 (by decide) (fun _ => by show 8 * (x.2 - (tS x s + tZ x s)) + 7 - 1 ≤ f; omega) (fun v hv => by cases hv)
              generalize sp_pr x f 1 none (sp_opn x s) = r at r1 r2 r3
              have r2' : cN (pC s) ≤ cN (pC r.2) := r2
              by_cases cf : pF r.2 = 0
              · rw [if_neg (fun z => z cf)]
                obtain ⟨q1, q2, q3, q4⟩ := r3 cf
                have q5 : tS x s + tZ x s ≤ r.2.1 := q3
                obtain ⟨u1, u2, u3⟩ := sp_cmb_ok (lv := 1) (v := v) (w := r.1) (a := tS x s) (sp_cls1_ok r1) cf (by show v < 2 * cN (pC r.2); omega) q1
                refine ⟨u1, Nat.le_trans r2' u2, fun z => ?_⟩
                obtain ⟨w1, w2, w3⟩ := u3 z
                have w4 : r.2.1 ≤ (sp_cmb 1 v r.1 (tS x s) (sp_cls1 r.2)).2.1 := w3
                refine ⟨w1, ?_, by omega, fun z => by cases z⟩
                rw [w2]
                show pO r.2 - 1 = pO s
                rw [q2]
                show pO s + 1 - 1 = pO s
                omega
              · rw [if_pos cf]
                exact ⟨r1, r2, fun z => absurd z cf⟩
          · rw [if_neg c1]
            exact same
        · rw [if_neg l1]
          by_cases c1 : tK x s = sp_sgv lv
          · rw [if_pos c1]
            have hne : ¬ sp_sgv lv = 256 := by
              unfold sp_sgv
              split
              · decide
              · split
                · decide
                · split <;> decide
            have hm := sp_tok_lt h (by rw [c1]; exact hne)
            obtain ⟨r1, r2, r3⟩ := ih (lv + 1) none (sp_pass x s) (sp_pass_ok h) h0 (by omega) (fun _ => by show 8 * (x.2 - (tS x s + tZ x s)) + 7 - (lv + 1) ≤ f; omega) (fun v hv => by cases hv)
            generalize sp_pr x f (lv + 1) none (sp_pass x s) = r at r1 r2 r3
            have r2' : cN (pC s) ≤ cN (pC r.2) := r2
            by_cases cf : pF r.2 = 0
            · rw [if_neg (fun z => z cf)]
              obtain ⟨q1, q2, q3, q4⟩ := r3 cf
              have q5 : tS x s + tZ x s ≤ r.2.1 := q3
              obtain ⟨u1, u2, u3⟩ := sp_cmb_ok (lv := lv) (v := v) (w := r.1) (a := tS x s) r1 cf (by omega) q1
              generalize sp_cmb lv v r.1 (tS x s) r.2 = u at u1 u2 u3
              by_cases cu : pF u.2 = 0
              · rw [if_neg (fun z => z cu)]
                obtain ⟨w1, w2, w3⟩ := u3 cu
                have hu := u1.2.2.1
                obtain ⟨y1, y2, y3⟩ := ih lv (some u.1) u.2 u1 cu hlv (fun z => by cases z) (fun v hv => by cases hv; exact ⟨hs1, w1, by omega⟩)
                refine ⟨y1, Nat.le_trans (Nat.le_trans r2' u2) y2, fun z => ?_⟩
                obtain ⟨a1, a2, a3, a4⟩ := y3 z
                exact ⟨a1, a2.trans (w2.trans q2), by omega, fun z => by cases z⟩
              · rw [if_pos cu]
                exact ⟨u1, Nat.le_trans r2' u2, fun z => absurd z cu⟩
            · rw [if_pos cf]
              exact ⟨r1, r2, fun z => absurd z cf⟩
          · rw [if_neg c1]
            exact same
      · rw [if_pos hl]
        exact ⟨sp_look_ok h, by dsimp only; rw [sp_look_c]; exact Nat.le_refl _, fun z => absurd z hl⟩
