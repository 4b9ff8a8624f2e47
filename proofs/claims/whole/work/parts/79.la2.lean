/-! THE LAW from its beginning -/
theorem cl_R_0 : cl_R cl_0 sp_w0 := by
  refine ⟨⟨⟨⟨rfl, Nat.le_refl 1, show (1 : Nat) ≤ 120 by decide⟩, fun v hv => ?_⟩, rfl, fun i hi => absurd hi (Nat.not_lt_zero i)⟩, ⟨rfl, rfl, fun _ => ⟨by decide, fun v hv => ?_⟩⟩, ⟨rfl, fun j hj => absurd hj (Nat.not_lt_zero j), fun j hj => absurd hj (Nat.not_lt_zero j)⟩, rfl, ⟨rfl, rfl, rfl, rfl⟩⟩
  · have h1 : v < 1 := hv
    have h0 : v = 0 := by omega
    subst h0
    exact ⟨rfl, rfl, rfl, show (0 : Nat) < 2 ^ 31 by decide, show (0 : Nat) < 2 ^ 31 by decide, show (0 : Nat) < 2 ^ 31 by decide⟩
  · have h1 : v < 1 := hv
    have h0 : v = 0 := by omega
    subst h0
    rfl
theorem md_R_0 : md_R md_0 sp_w0 := by
  refine ⟨⟨⟨rfl, Nat.le_refl 1, show (1 : Nat) ≤ 120 by decide, fun v hv => ?_⟩, rfl, fun i hi => absurd hi (Nat.not_lt_zero i)⟩, ⟨fun l hl => ?_, rfl⟩, ⟨rfl, fun j hj => absurd hj (Nat.not_lt_zero j)⟩, rfl, ⟨rfl, rfl, rfl, rfl⟩⟩
  · have h1 : v < 1 := hv
    have h0 : v = 0 := by omega
    subst h0
    exact ⟨rfl, rfl, rfl, show (0 : Nat) < 2 ^ 31 by decide, show (0 : Nat) < 2 ^ 31 by decide, show (0 : Nat) < 2 ^ 31 by decide⟩
  · have h1 : l < 2 := hl
    have h0 : l = 0 ∨ l = 1 := by omega
    rcases h0 with e | e <;> subst e <;> rfl
theorem N_7 : xp_N 7 = 41 := by decide +kernel
theorem gl_0 (B : Nat) (G : Nat → Option xo_C) (C : Nat → xo_C) (s : Nat) : ((G, B, s) : xo_G) = gl B (G, B, s) 0 C s := by
  refine Prod.ext (funext fun a => ?_) rfl
  show G a = (if B ≤ a ∧ a < B + 0 then some (C (a - B)) else G a)
  rw [if_neg (by omega)]
section LA2
variable {X : xo_X} {d B b L : Nat} {xs : Nat → Int32} {G : Nat → Option xo_C} {Q : Option Value → xo_G → Prop}
theorem la_all (hX : ∀ S, la_X X B b L xs (G, B + 86, S)) (hQ : ∀ τ σ S, S ≤ 20000 → Q (some (.int 1)) (cl_put B τ (md_put (B + 63) σ (G, B + 86, S)))) : ev_R X (d + 260) m_La_law 0 [some (.ref b), none, none, none] [] (G, B, 0) Q := by
  have C0 : Nat → xo_C := fun _ => .inl (0, fun _ => .null)
  rw [gl_0 B G C0 0]
  simp (disch := first | exact ev_ok_i _ | exact ev_ok_r _ | exact ev_ok_n | omega | assumption | decide) only [e_La_law_0, e_La_law_3, ev_rm_n, ev_rm_i, ev_rm_r, ev_rm_l, ev_ok_n, ev_ok_i, ev_ok_r, Option.toList_some, Option.toList_none, List.cons_append, List.nil_append, true_and, and_true, true_or, or_true, reduceIte, Nat.reduceEqDiff, if_true, if_false, gl_push, gl_21, N_6, Nat.add_zero]
  rw [e_La_law_4]
  simp (disch := first | exact ev_ok_i _ | exact ev_ok_r _ | exact ev_ok_n | omega | assumption | decide) only [ev_rm_n, ev_rm_i, ev_rm_r, ev_rm_l, ev_ok_n, ev_ok_i, ev_ok_r, Option.toList_some, Option.toList_none, List.cons_append, List.nil_append, true_and, and_true, true_or, or_true, reduceIte, Nat.reduceEqDiff, if_true, if_false]
  refine c_dpInit (d := d + 256) (by rw [va_up_self]) ?_
  simp (disch := first | exact ev_ok_i _ | exact ev_ok_r _ | exact ev_ok_n | omega | assumption | decide) only [e_La_law_7, ev_rm_n, ev_rm_i, ev_rm_r, ev_rm_l, ev_ok_n, ev_ok_i, ev_ok_r, Option.toList_some, Option.toList_none, List.cons_append, List.nil_append, true_and, and_true, true_or, or_true, reduceIte, Nat.reduceEqDiff, if_true, if_false]
  rw [e_La_law_8]
  show ev_R X (d + 260) m_La_law 11 _ [.ref (B + 63)] (xo_push (cl_put B cl_0 (G, B + 63, 0 + 7 + 5099)) (.inl (7, fun j => xo_df (xp_ty 7 j))) (xp_N 7)) Q
  have e1 : cl_put B cl_0 (G, B + 63, 0 + 7 + 5099) = gl (B + 63) (cl_put B cl_0 (G, B + 63, 0 + 7 + 5099)) 0 C0 (0 + 7 + 5099) := gl_0 (B + 63) (cl_put B cl_0 (G, B + 63, 0 + 7 + 5099)).1 C0 (0 + 7 + 5099)
  rw [e1, gl_push, N_7]
  simp (disch := first | exact ev_ok_i _ | exact ev_ok_r _ | exact ev_ok_n | omega | assumption | decide) only [e_La_law_11, ev_rm_n, ev_rm_i, ev_rm_r, ev_rm_l, ev_ok_n, ev_ok_i, ev_ok_r, Option.toList_some, Option.toList_none, List.cons_append, List.nil_append, true_and, and_true, true_or, or_true, reduceIte, Nat.reduceEqDiff, if_true, if_false]
  rw [e_La_law_12]
  simp (disch := first | exact ev_ok_i _ | exact ev_ok_r _ | exact ev_ok_n | omega | assumption | decide) only [ev_rm_n, ev_rm_i, ev_rm_r, ev_rm_l, ev_ok_n, ev_ok_i, ev_ok_r, Option.toList_some, Option.toList_none, List.cons_append, List.nil_append, true_and, and_true, true_or, or_true, reduceIte, Nat.reduceEqDiff, if_true, if_false]
  refine c_mdInit (by rw [va_up_self]) ?_
  simp (disch := first | exact ev_ok_i _ | exact ev_ok_r _ | exact ev_ok_n | omega | assumption | decide) only [e_La_law_15, e_La_law_16, e_La_law_17, ev_rm_n, ev_rm_i, ev_rm_r, ev_rm_l, ev_ok_n, ev_ok_i, ev_ok_r, Option.toList_some, Option.toList_none, List.cons_append, List.nil_append, true_and, and_true, true_or, or_true, reduceIte, Nat.reduceEqDiff, if_true, if_false]
  show ev_R X (d + 260) m_La_law 18 _ [] (md_put (B + 63) md_0 (cl_put B cl_0 (G, B + 86, 0 + 7 + 5099 + 41 + 8788))) Q
  rw [← hp_sw]
  exact la_loop (hX _) (fun τ σ => hQ τ σ _ (by decide)) L 0 cl_0 md_0 (by omega) (by decide) ⟨sp_w0, ok_w0, cl_R_0, md_R_0⟩
end LA2
