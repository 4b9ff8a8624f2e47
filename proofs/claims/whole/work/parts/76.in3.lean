/-! THE CLASS's constructors: saturator, and the class itself -/
section IN3
variable {X : xo_X} {d B k s j ci : Nat} {g : xo_G} {C : Nat → xo_C} {F : Nat → Value} {Q : Option Value → xo_G → Prop}
theorem N_1 : xp_N 1 = 4 := by decide +kernel
theorem gl_21 : (gl B g k C s).2.1 = B + k := rfl
theorem gl_gf {q : Nat} {K : Value → Prop} (h : j < k) (hC : C j = .inl (ci, F)) : ev_gf (gl B g k C s) (B + j) ci q K ↔ K (F q) := by
  unfold ev_gf
  rw [gl_at h, hC]
  simp
/-- an array of equivalences, the first i of them made, at o, o + 4, .. -/
def sa_ar (B o i : Nat) : xo_C := .inr (.object "DilemmaProver$Equivalence", (4, .inr (.inr (.inr (.inr (fun u => if u < i then some (B + (o + 4 * u)) else none))))))
theorem sa_ar_s (B o i : Nat) (hi : i < 4) : (.inr (.object "DilemmaProver$Equivalence", (4, .inr (.inr (.inr (.inr (va_up (fun u => if u < i then some (B + (o + 4 * u)) else none) (nI i).toNatClampNeg (some (B + (o + 4 * i)))))))) ) : xo_C) = sa_ar B o (i + 1) := by
  unfold sa_ar
  rw [nI_clamp (by omega)]
  congr 7
  funext u
  unfold va_up
  by_cases e : u = i
  · subst e
    rw [if_pos rfl, if_pos (by omega)]
  · rw [if_neg e]
    dsimp only
    by_cases e2 : u < i
    · rw [if_pos e2, if_pos (by omega)]
    · rw [if_neg e2, if_neg (by omega)]
abbrev sa_S : Nat → Prop := fun i => i = 0 ∨ i = 39 ∨ i = 42 ∨ i = 43
theorem c_saInit_loop {F : Nat → Value} (f2 : F 2 = .ref (B + 42)) (f3 : F 3 = .ref (B + 43)) {lx : Nat} : ∀ (m i : Nat) (C : Nat → xo_C) (s : Nat), i + m = 4 → C 39 = .inl (3, F) → C 42 = sa_ar B 45 i → C 43 = sa_ar B 47 i → cl_Iv B sa_S (45 + 4 * i) C → (∀ C2, C2 0 = C 0 → C2 39 = .inl (3, F) → C2 42 = sa_ar B 45 4 → C2 43 = sa_ar B 47 4 → cl_Iv B sa_S 61 C2 → Q none (gl B g 61 C2 (s + 248 * m))) → ev_R X (d + 2) m_Sa_init 55 [some (.ref (B + 39)), some (.ref lx), some (.int (nI i))] [] (gl B g (45 + 4 * i) C s) Q := by
  intro m
  induction m with
  | zero =>
    intro i C s hi h39 h42 h43 hI hQ
    have e : i = 4 := by omega
    subst e
    have l4 : (4 : Int32) ≤ nI 4 := by decide
    simp (disch := first | exact ev_ok_i _ | exact ev_ok_r _ | exact ev_ok_n | omega | assumption | decide) only [e_Sa_init_55, e_Sa_init_56, e_Sa_init_57, e_Sa_init_92, ev_rm_n, ev_rm_i, ev_rm_r, ev_rm_l, ev_ok_n, ev_ok_i, ev_ok_r, Option.toList_some, Option.toList_none, List.cons_append, List.nil_append, true_and, and_true, true_or, or_true, reduceIte, Nat.reduceEqDiff, if_true, if_false, l4, if_true]
    exact hQ C rfl h39 h42 h43 hI
  | succ m ih =>
    intro i C s hi h39 h42 h43 hI hQ
    have l4 : ¬ (4 : Int32) ≤ nI i := nI_ge (b := 4) (by omega) (by decide)
    have m1 := (cl_br i (by omega)).1
    have m2 := (cl_br i (by omega)).2
    have ho : xo_out (nI i) 4 = false := xo_in (by omega) (by decide)
    simp (disch := first | exact ev_ok_i _ | exact ev_ok_r _ | exact ev_ok_n | omega | assumption | decide) only [e_Sa_init_55, e_Sa_init_56, e_Sa_init_57, e_Sa_init_60, ev_rm_n, ev_rm_i, ev_rm_r, ev_rm_l, ev_ok_n, ev_ok_i, ev_ok_r, Option.toList_some, Option.toList_none, List.cons_append, List.nil_append, true_and, and_true, true_or, or_true, reduceIte, Nat.reduceEqDiff, if_true, if_false, l4, if_false]
    rw [e_Sa_init_61, gl_gf (by omega) h39, f2]
    simp (disch := first | exact ev_ok_i _ | exact ev_ok_r _ | exact ev_ok_n | omega | assumption | decide) only [e_Sa_init_64, e_Sa_init_65, e_Sa_init_68, ev_rm_n, ev_rm_i, ev_rm_r, ev_rm_l, ev_ok_n, ev_ok_i, ev_ok_r, Option.toList_some, Option.toList_none, List.cons_append, List.nil_append, true_and, and_true, true_or, or_true, reduceIte, Nat.reduceEqDiff, if_true, if_false, gl_push, N_1, gl_21]
    rw [e_Sa_init_69]
    simp (disch := first | exact ev_ok_i _ | exact ev_ok_r _ | exact ev_ok_n | omega | assumption | decide) only [ev_rm_n, ev_rm_i, ev_rm_r, ev_rm_l, ev_ok_n, ev_ok_i, ev_ok_r, Option.toList_some, Option.toList_none, List.cons_append, List.nil_append, true_and, and_true, true_or, or_true, reduceIte, Nat.reduceEqDiff, if_true, if_false]
    -- the equivalence at 45 + 4 i
    have n39 : ¬ 39 = 45 + 4 * i := by omega
    have n42 : ¬ 42 = 45 + 4 * i := by omega
    have n43 : ¬ 43 = 45 + 4 * i := by omega
    refine c_eqInit (j := 45 + 4 * i) (d := d) m1 rfl (by rw [va_up_self]) (fun C1 a1 a2 a3 => ?_)
    have b39 : C1 39 = .inl (3, F) := by rw [a3 39 (by omega), va_up_ne _ _ n39]; exact h39
    have b42 : C1 42 = sa_ar B 45 i := by rw [a3 42 (by omega), va_up_ne _ _ n42]; exact h42
    have b43 : C1 43 = sa_ar B 47 i := by rw [a3 43 (by omega), va_up_ne _ _ n43]; exact h43
    have b0 : C1 0 = C 0 := by rw [a3 0 (by omega), va_up_ne _ _ (by omega)]
    have bI : cl_Iv B sa_S (47 + 4 * i) C1 := fun u hu hs => by
      by_cases e1 : u = 45 + 4 * i
      · rw [e1]; exact a1
      · by_cases e2 : u = 45 + 4 * i + 1
        · rw [e2]; exact a2
        · rw [a3 u (by omega), va_up_ne _ _ e1]
          exact hI u (by omega) hs
    simp (disch := first | exact ev_ok_i _ | exact ev_ok_r _ | exact ev_ok_n | omega | assumption | decide) only [ev_rm_n, ev_rm_i, ev_rm_r, ev_rm_l, ev_ok_n, ev_ok_i, ev_ok_r, Option.toList_some, Option.toList_none, List.cons_append, List.nil_append, true_and, and_true, true_or, or_true, reduceIte, Nat.reduceEqDiff, if_true, if_false]
    rw [e_Sa_init_72, gl_qs (by omega) (by omega) b42 (a1.trans (cl0_eo m1).1) ho, sa_ar_s B 45 i (by omega)]
    generalize hC2 : va_up C1 42 (sa_ar B 45 (i + 1)) = C2
    have c39 : C2 39 = .inl (3, F) := by rw [← hC2, va_up_ne _ _ (by decide)]; exact b39
    have c42 : C2 42 = sa_ar B 45 (i + 1) := by rw [← hC2, va_up_self]
    have c43 : C2 43 = sa_ar B 47 i := by rw [← hC2, va_up_ne _ _ (by decide)]; exact b43
    have c0 : C2 0 = C 0 := by rw [← hC2, va_up_ne _ _ (by decide)]; exact b0
    have cI : cl_Iv B sa_S (47 + 4 * i) C2 := fun u hu hs => by
      rw [← hC2, va_up_ne _ _ (fun z => hs (Or.inr (Or.inr (Or.inl z))))]
      exact bI u hu hs
    simp (disch := first | exact ev_ok_i _ | exact ev_ok_r _ | exact ev_ok_n | omega | assumption | decide) only [e_Sa_init_73, ev_rm_n, ev_rm_i, ev_rm_r, ev_rm_l, ev_ok_n, ev_ok_i, ev_ok_r, Option.toList_some, Option.toList_none, List.cons_append, List.nil_append, true_and, and_true, true_or, or_true, reduceIte, Nat.reduceEqDiff, if_true, if_false]
    rw [e_Sa_init_74, gl_gf (by omega) c39, f3]
    rw [show 45 + 4 * i + 1 + 1 = 47 + 4 * i by omega]
    simp (disch := first | exact ev_ok_i _ | exact ev_ok_r _ | exact ev_ok_n | omega | assumption | decide) only [e_Sa_init_77, e_Sa_init_78, e_Sa_init_81, ev_rm_n, ev_rm_i, ev_rm_r, ev_rm_l, ev_ok_n, ev_ok_i, ev_ok_r, Option.toList_some, Option.toList_none, List.cons_append, List.nil_append, true_and, and_true, true_or, or_true, reduceIte, Nat.reduceEqDiff, if_true, if_false, gl_push, N_1, gl_21]
    rw [e_Sa_init_82]
    simp (disch := first | exact ev_ok_i _ | exact ev_ok_r _ | exact ev_ok_n | omega | assumption | decide) only [ev_rm_n, ev_rm_i, ev_rm_r, ev_rm_l, ev_ok_n, ev_ok_i, ev_ok_r, Option.toList_some, Option.toList_none, List.cons_append, List.nil_append, true_and, and_true, true_or, or_true, reduceIte, Nat.reduceEqDiff, if_true, if_false]
    have p39 : ¬ 39 = 47 + 4 * i := by omega
    have p42 : ¬ 42 = 47 + 4 * i := by omega
    have p43 : ¬ 43 = 47 + 4 * i := by omega
    refine c_eqInit (j := 47 + 4 * i) (d := d) m2 rfl (by rw [va_up_self]) (fun C3 a4 a5 a6 => ?_)
    have e39 : C3 39 = .inl (3, F) := by rw [a6 39 (by omega), va_up_ne _ _ p39]; exact c39
    have e42 : C3 42 = sa_ar B 45 (i + 1) := by rw [a6 42 (by omega), va_up_ne _ _ p42]; exact c42
    have e43 : C3 43 = sa_ar B 47 i := by rw [a6 43 (by omega), va_up_ne _ _ p43]; exact c43
    have e0 : C3 0 = C 0 := by rw [a6 0 (by omega), va_up_ne _ _ (by omega)]; exact c0
    have eI : cl_Iv B sa_S (45 + 4 * (i + 1)) C3 := fun u hu hs => by
      by_cases e1 : u = 47 + 4 * i
      · rw [e1]; exact a4
      · by_cases e2 : u = 47 + 4 * i + 1
        · rw [e2]; exact a5
        · rw [a6 u (by omega), va_up_ne _ _ e1]
          exact cI u (by omega) hs
    simp (disch := first | exact ev_ok_i _ | exact ev_ok_r _ | exact ev_ok_n | omega | assumption | decide) only [ev_rm_n, ev_rm_i, ev_rm_r, ev_rm_l, ev_ok_n, ev_ok_i, ev_ok_r, Option.toList_some, Option.toList_none, List.cons_append, List.nil_append, true_and, and_true, true_or, or_true, reduceIte, Nat.reduceEqDiff, if_true, if_false]
    rw [e_Sa_init_85, gl_qs (by omega) (by omega) e43 (a4.trans (cl0_eo m2).1) ho, sa_ar_s B 47 i (by omega)]
    simp (disch := first | exact ev_ok_i _ | exact ev_ok_r _ | exact ev_ok_n | omega | assumption | decide) only [e_Sa_init_86, ev_rm_n, ev_rm_i, ev_rm_r, ev_rm_l, ev_ok_n, ev_ok_i, ev_ok_r, Option.toList_some, Option.toList_none, List.cons_append, List.nil_append, true_and, and_true, true_or, or_true, reduceIte, Nat.reduceEqDiff, if_true, if_false, nI_1]
    rw [e_Sa_init_89, show 47 + 4 * i + 1 + 1 = 45 + 4 * (i + 1) by omega]
    refine ih (i + 1) _ _ (by omega) (by rw [va_up_ne _ _ (by decide)]; exact e39) (by rw [va_up_ne _ _ (by decide)]; exact e42) (by rw [va_up_self]) (fun u hu hs => ?_) (fun C4 y0 y1 y2 y3 y4 => ?_)
    · rw [va_up_ne _ _ (fun z => hs (Or.inr (Or.inr (Or.inr z))))]
      exact eI u hu hs
    · rw [show s + 4 + 120 + 4 + 120 + 248 * m = s + 248 * (m + 1) by omega]
      exact hQ C4 (y0.trans (by rw [va_up_ne _ _ (by decide)]; exact e0)) y1 y2 y3 y4
theorem c_saInit (hC : C 39 = .inl (3, fun q => xo_df (xp_ty 3 q))) (hI : cl_Iv B (fun i => i = 0) 39 C) (hQ : ∀ C2, cl_Iv B (fun i => i = 0) 61 C2 → C2 0 = C 0 → Q none (gl B g 61 C2 (s + 1128))) : ev_C X (d + 2) m_Sa_init [.ref (B + 39), .ref (B + 3)] (gl B g 40 C s) Q := by
  show ev_R X (d + 2) m_Sa_init 0 [some (.ref (B + 39)), some (.ref (B + 3)), none] [] (gl B g 40 C s) Q
  have h4 : (¬ ((4 : Int32) < 0 ∨ 100000 < 4)) = True := eq_true (by decide)
  have c4 : (4 : Int32).toNatClampNeg = 4 := rfl
  have m40 : 40 ∈ cl_eo := by decide
  simp (disch := first | exact ev_ok_i _ | exact ev_ok_r _ | exact ev_ok_n | omega | assumption | decide) only [e_Sa_init_0, e_Sa_init_1, e_Sa_init_4, e_Sa_init_5, e_Sa_init_8, ev_rm_n, ev_rm_i, ev_rm_r, ev_rm_l, ev_ok_n, ev_ok_i, ev_ok_r, Option.toList_some, Option.toList_none, List.cons_append, List.nil_append, true_and, and_true, true_or, or_true, reduceIte, Nat.reduceEqDiff, if_true, if_false, gl_push, N_1, gl_21]
  rw [e_Sa_init_9]
  simp (disch := first | exact ev_ok_i _ | exact ev_ok_r _ | exact ev_ok_n | omega | assumption | decide) only [ev_rm_n, ev_rm_i, ev_rm_r, ev_rm_l, ev_ok_n, ev_ok_i, ev_ok_r, Option.toList_some, Option.toList_none, List.cons_append, List.nil_append, true_and, and_true, true_or, or_true, reduceIte, Nat.reduceEqDiff, if_true, if_false]
  refine c_eqInit (j := 40) (d := d) m40 rfl (by rw [va_up_self]) (fun C1 a1 a2 a3 => ?_)
  have b39 : C1 39 = .inl (3, fun q => xo_df (xp_ty 3 q)) := by rw [a3 39 (by omega), va_up_ne _ _ (by decide)]; exact hC
  have b0 : C1 0 = C 0 := by rw [a3 0 (by omega), va_up_ne _ _ (by decide)]
  have bI : ∀ u, u < 42 → ¬ u = 0 → ¬ u = 39 → C1 u = cl_cell B cl_0 u := fun u hu h1 h2 => by
    by_cases e1 : u = 40
    · rw [e1]; exact a1
    · by_cases e2 : u = 41
      · rw [e2]; exact a2
      · rw [a3 u (by omega), va_up_ne _ _ e1]
        exact hI u (by omega) h1
  rw [gl_go b39]
  simp (disch := first | exact ev_ok_i _ | exact ev_ok_r _ | exact ev_ok_n | omega | assumption | decide) only [e_Sa_init_12, e_Sa_init_15, e_Sa_init_16, e_Sa_init_17, e_Sa_init_20, e_Sa_init_23, e_Sa_init_24, e_Sa_init_25, e_Sa_init_28, e_Sa_init_31, e_Sa_init_32, e_Sa_init_33, e_Sa_init_35, e_Sa_init_38, e_Sa_init_39, e_Sa_init_40, e_Sa_init_43, e_Sa_init_44, e_Sa_init_45, e_Sa_init_48, e_Sa_init_49, e_Sa_init_50, e_Sa_init_53, e_Sa_init_54, ev_rm_n, ev_rm_i, ev_rm_r, ev_rm_l, ev_ok_n, ev_ok_i, ev_ok_r, Option.toList_some, Option.toList_none, List.cons_append, List.nil_append, true_and, and_true, true_or, or_true, reduceIte, Nat.reduceEqDiff, if_true, if_false, go_push, go_21, go_pf, ty_0_0, ty_0_1, ty_0_2, ty_0_3, ty_0_4, ty_0_5, ty_0_6, ty_0_7, ty_1_0, ty_1_1, ty_1_2, ty_1_3, ty_2_0, ty_2_1, ty_2_2, ty_2_3, ty_2_4, ty_2_5, ty_2_6, ty_2_7, ty_3_0, ty_3_1, ty_3_2, ty_3_3, ty_3_4, ty_3_5, ty_3_6, ty_4_0, ty_4_1, ty_5_0, ty_5_1, ty_6_0, ty_6_1, ty_6_2, ty_6_3, ty_6_4, ty_6_5, ty_6_6, ty_7_0, ty_7_1, ty_7_2, ty_7_3, ty_7_4, ty_7_5, ty_7_6, ty_7_7, ty_7_8, ty_7_9, ty_7_10, ty_7_11, ty_7_12, ty_7_13, ty_7_14, ty_7_15, ty_7_16, ty_7_17, ty_7_18, ty_7_19, ty_7_20, ty_7_21, ty_7_22, ty_7_23, ty_7_24, ty_7_25, ty_7_26, ty_7_27, ty_7_28, ty_7_29, ty_7_30, ty_7_31, ty_7_32, ty_7_33, ty_7_34, ty_7_35, ty_7_36, ty_7_37, ty_7_38, ty_7_39, ty_7_40, fit_a, fit_o, fit_i, fit_z0, h4, c4, Nat.reduceAdd]
  unfold go
  have e0 : (0 : Int32) = nI 0 := rfl
  rw [e0]
  refine c_saInit_loop (d := d) (F := va_up (va_up (va_up (va_up (va_up (va_up (va_up (fun q => xo_df (xp_ty 3 q)) 1 (.ref (B + 40))) 2 (.ref (B + 42))) 3 (.ref (B + 43))) 4 (.ref (B + 44))) 5 (.int 0)) 6 (.int 0)) 0 (.ref (B + 3))) rfl rfl 4 0 _ _ (by decide) (by rw [va_up_self]; rfl) ?_ ?_ (fun u hu hs => ?_) (fun C4 y0 y1 y2 y3 y4 => ?_)
  · rfl
  · rfl
  · have h1 : ¬ u = 0 := fun z => hs (Or.inl z)
    have h2 : ¬ u = 39 := fun z => hs (Or.inr (Or.inl z))
    have h3 : ¬ u = 42 := fun z => hs (Or.inr (Or.inr (Or.inl z)))
    have h5 : ¬ u = 43 := fun z => hs (Or.inr (Or.inr (Or.inr z)))
    rw [va_up_ne _ _ h2]
    by_cases e : u = 44
    · subst e; rfl
    · rw [va_up_ne _ _ e, va_up_ne _ _ h5, va_up_ne _ _ h3]
      exact bI u (by omega) h1 h2
  · rw [show s + 4 + 120 + 4 + 4 + 4 + 248 * 4 = s + 1128 by omega]
    refine hQ C4 (fun u hu h0 => ?_) (y0.trans ?_)
    · by_cases e1 : u = 39
      · rw [e1, y1]
        show _ = (.inl (3, fun k => if k < 5 then .ref (B + [3, 40, 42, 43, 44].getD k 0) else .int (cl_0.1 39 k)) : xo_C)
        congr 2
        funext q
        by_cases q0 : q = 0
        · subst q0; rfl
        · by_cases q1 : q = 1
          · subst q1; rfl
          · by_cases q2 : q = 2
            · subst q2; rfl
            · by_cases q3 : q = 3
              · subst q3; rfl
              · by_cases q4 : q = 4
                · subst q4; rfl
                · by_cases q5 : q = 5
                  · subst q5; rfl
                  · by_cases q6 : q = 6
                    · subst q6; rfl
                    · simp only [va_up, q0, q1, q2, q3, q4, q5, q6, if_false]
                      rw [df_3, if_neg (by omega), if_neg (by omega)]
                      rfl
      · by_cases e2 : u = 42
        · rw [e2, y2]; rfl
        · by_cases e3 : u = 43
          · rw [e3, y3]; rfl
          · exact y4 u hu (fun z => by
              rcases z with z | z | z | z
              · exact h0 z
              · exact e1 z
              · exact e2 z
              · exact e3 z)
    · rw [va_up_ne _ _ (by decide), va_up_ne _ _ (by decide), va_up_ne _ _ (by decide), va_up_ne _ _ (by decide)]
      exact b0
theorem N_6 : xp_N 6 = 7 := by decide +kernel
theorem N_5 : xp_N 5 = 2 := by decide +kernel
theorem N_0 : xp_N 0 = 8 := by decide +kernel
theorem N_2 : xp_N 2 = 8 := by decide +kernel
theorem N_3 : xp_N 3 = 7 := by decide +kernel
theorem N_4 : xp_N 4 = 2 := by decide +kernel
theorem cl_Iv_p {S : Nat → Prop} {c : xo_C} (h : cl_Iv B S k C) : cl_Iv B S k (va_up C k c) := fun i hi hs => by
  rw [va_up_ne _ _ (by omega)]
  exact h i hi hs
theorem cl_Iv_0 {c : xo_C} (h : cl_Iv B (fun i => i = 0) k C) : cl_Iv B (fun i => i = 0) k (va_up C 0 c) := fun i hi hs => by
  rw [va_up_ne _ _ hs]
  exact h i hi hs
theorem go0_pf {q : Nat} {v : Value} {K : xo_G → Prop} (h : 0 < k) : ev_pf (go B g k C s 0 ci F) B ci q v True K ↔ xo_fit (xp_ty ci q) v = true ∧ K (go B g k C s 0 ci (va_up F q v)) := go_pf (j := 0) h
theorem go0_gf {q : Nat} {K : Value → Prop} (h : 0 < k) : ev_gf (go B g k C s 0 ci F) B ci q K ↔ K (F q) := go_gf (j := 0) h
/-- the class's constructor -/
theorem c_dpInit (hC : C 0 = .inl (6, fun q => xo_df (xp_ty 6 q))) (hQ : Q none (cl_put B cl_0 (g.1, B + 63, s + 5099))) : ev_C X (d + 3) m_Dp_init [.ref B] (gl B g 1 C s) Q := by
  show ev_R X (d + 3) m_Dp_init 0 [some (.ref B)] [] (gl B g 1 C s) Q
  rw [gl_go hC]
  -- the text
  simp (disch := first | exact ev_ok_i _ | exact ev_ok_r _ | exact ev_ok_n | omega | assumption | decide) only [e_Dp_init_0, e_Dp_init_1, e_Dp_init_4, e_Dp_init_5, e_Dp_init_8, ev_rm_n, ev_rm_i, ev_rm_r, ev_rm_l, ev_ok_n, ev_ok_i, ev_ok_r, Option.toList_some, Option.toList_none, List.cons_append, List.nil_append, true_and, and_true, true_or, or_true, reduceIte, Nat.reduceEqDiff, if_true, if_false, go_push, go_21, N_5]
  rw [e_Dp_init_9]
  simp (disch := first | exact ev_ok_i _ | exact ev_ok_r _ | exact ev_ok_n | omega | assumption | decide) only [ev_rm_n, ev_rm_i, ev_rm_r, ev_rm_l, ev_ok_n, ev_ok_i, ev_ok_r, Option.toList_some, Option.toList_none, List.cons_append, List.nil_append, true_and, and_true, true_or, or_true, reduceIte, Nat.reduceEqDiff, if_true, if_false]
  unfold go
  refine c_teInit (by rw [va_up_ne _ _ (by decide), va_up_self]) (fun i hi h0 => absurd (show i = 0 by omega) h0) (fun C1 I1 z1 => ?_)
  rw [va_up_self] at z1
  rw [gl_go z1]
  simp (disch := first | exact ev_ok_i _ | exact ev_ok_r _ | exact ev_ok_n | omega | assumption | decide) only [e_Dp_init_12, e_Dp_init_15, e_Dp_init_16, e_Dp_init_19, ev_rm_n, ev_rm_i, ev_rm_r, ev_rm_l, ev_ok_n, ev_ok_i, ev_ok_r, Option.toList_some, Option.toList_none, List.cons_append, List.nil_append, true_and, and_true, true_or, or_true, reduceIte, Nat.reduceEqDiff, if_true, if_false, go0_pf, ty_0_0, ty_0_1, ty_0_2, ty_0_3, ty_0_4, ty_0_5, ty_0_6, ty_0_7, ty_1_0, ty_1_1, ty_1_2, ty_1_3, ty_2_0, ty_2_1, ty_2_2, ty_2_3, ty_2_4, ty_2_5, ty_2_6, ty_2_7, ty_3_0, ty_3_1, ty_3_2, ty_3_3, ty_3_4, ty_3_5, ty_3_6, ty_4_0, ty_4_1, ty_5_0, ty_5_1, ty_6_0, ty_6_1, ty_6_2, ty_6_3, ty_6_4, ty_6_5, ty_6_6, ty_7_0, ty_7_1, ty_7_2, ty_7_3, ty_7_4, ty_7_5, ty_7_6, ty_7_7, ty_7_8, ty_7_9, ty_7_10, ty_7_11, ty_7_12, ty_7_13, ty_7_14, ty_7_15, ty_7_16, ty_7_17, ty_7_18, ty_7_19, ty_7_20, ty_7_21, ty_7_22, ty_7_23, ty_7_24, ty_7_25, ty_7_26, ty_7_27, ty_7_28, ty_7_29, ty_7_30, ty_7_31, ty_7_32, ty_7_33, ty_7_34, ty_7_35, ty_7_36, ty_7_37, ty_7_38, ty_7_39, ty_7_40, fit_o, go_push, go_21, N_0]
  rw [e_Dp_init_20]
  simp (disch := first | exact ev_ok_i _ | exact ev_ok_r _ | exact ev_ok_n | omega | assumption | decide) only [ev_rm_n, ev_rm_i, ev_rm_r, ev_rm_l, ev_ok_n, ev_ok_i, ev_ok_r, Option.toList_some, Option.toList_none, List.cons_append, List.nil_append, true_and, and_true, true_or, or_true, reduceIte, Nat.reduceEqDiff, if_true, if_false]
  -- the circuit
  unfold go
  refine c_ciInit (by rw [va_up_ne _ _ (by decide), va_up_self]) (cl_Iv_0 (cl_Iv_p I1)) (fun C2 I2 z2 => ?_)
  rw [va_up_self] at z2
  rw [gl_go z2]
  generalize hF2 : va_up (fun q => xo_df (xp_ty 6 q)) 0 (.ref (B + 1)) = F2
  have t0 : va_up F2 1 (.ref (B + 3)) 0 = .ref (B + 1) := by rw [← hF2]; rfl
  have t1 : va_up F2 1 (.ref (B + 3)) 1 = .ref (B + 3) := rfl
  simp (disch := first | exact ev_ok_i _ | exact ev_ok_r _ | exact ev_ok_n | omega | assumption | decide) only [e_Dp_init_23, e_Dp_init_26, e_Dp_init_27, e_Dp_init_30, e_Dp_init_31, e_Dp_init_32, e_Dp_init_35, e_Dp_init_36, ev_rm_n, ev_rm_i, ev_rm_r, ev_rm_l, ev_ok_n, ev_ok_i, ev_ok_r, Option.toList_some, Option.toList_none, List.cons_append, List.nil_append, true_and, and_true, true_or, or_true, reduceIte, Nat.reduceEqDiff, if_true, if_false, go0_pf, go0_gf, ty_0_0, ty_0_1, ty_0_2, ty_0_3, ty_0_4, ty_0_5, ty_0_6, ty_0_7, ty_1_0, ty_1_1, ty_1_2, ty_1_3, ty_2_0, ty_2_1, ty_2_2, ty_2_3, ty_2_4, ty_2_5, ty_2_6, ty_2_7, ty_3_0, ty_3_1, ty_3_2, ty_3_3, ty_3_4, ty_3_5, ty_3_6, ty_4_0, ty_4_1, ty_5_0, ty_5_1, ty_6_0, ty_6_1, ty_6_2, ty_6_3, ty_6_4, ty_6_5, ty_6_6, ty_7_0, ty_7_1, ty_7_2, ty_7_3, ty_7_4, ty_7_5, ty_7_6, ty_7_7, ty_7_8, ty_7_9, ty_7_10, ty_7_11, ty_7_12, ty_7_13, ty_7_14, ty_7_15, ty_7_16, ty_7_17, ty_7_18, ty_7_19, ty_7_20, ty_7_21, ty_7_22, ty_7_23, ty_7_24, ty_7_25, ty_7_26, ty_7_27, ty_7_28, ty_7_29, ty_7_30, ty_7_31, ty_7_32, ty_7_33, ty_7_34, ty_7_35, ty_7_36, ty_7_37, ty_7_38, ty_7_39, ty_7_40, fit_o, go_push, go_21, N_2, t0, t1]
  rw [e_Dp_init_39]
  simp (disch := first | exact ev_ok_i _ | exact ev_ok_r _ | exact ev_ok_n | omega | assumption | decide) only [ev_rm_n, ev_rm_i, ev_rm_r, ev_rm_l, ev_ok_n, ev_ok_i, ev_ok_r, Option.toList_some, Option.toList_none, List.cons_append, List.nil_append, true_and, and_true, true_or, or_true, reduceIte, Nat.reduceEqDiff, if_true, if_false]
  -- the reader
  unfold go
  refine c_reInit (by rw [va_up_ne _ _ (by decide), va_up_self]) (cl_Iv_0 (cl_Iv_p I2)) (fun C3 I3 z3 => ?_)
  rw [va_up_self] at z3
  rw [gl_go z3]
  generalize hF3 : va_up F2 1 (.ref (B + 3)) = F3 at t0 t1
  simp (disch := first | exact ev_ok_i _ | exact ev_ok_r _ | exact ev_ok_n | omega | assumption | decide) only [e_Dp_init_42, e_Dp_init_45, e_Dp_init_46, e_Dp_init_49, ev_rm_n, ev_rm_i, ev_rm_r, ev_rm_l, ev_ok_n, ev_ok_i, ev_ok_r, Option.toList_some, Option.toList_none, List.cons_append, List.nil_append, true_and, and_true, true_or, or_true, reduceIte, Nat.reduceEqDiff, if_true, if_false, go0_pf, ty_0_0, ty_0_1, ty_0_2, ty_0_3, ty_0_4, ty_0_5, ty_0_6, ty_0_7, ty_1_0, ty_1_1, ty_1_2, ty_1_3, ty_2_0, ty_2_1, ty_2_2, ty_2_3, ty_2_4, ty_2_5, ty_2_6, ty_2_7, ty_3_0, ty_3_1, ty_3_2, ty_3_3, ty_3_4, ty_3_5, ty_3_6, ty_4_0, ty_4_1, ty_5_0, ty_5_1, ty_6_0, ty_6_1, ty_6_2, ty_6_3, ty_6_4, ty_6_5, ty_6_6, ty_7_0, ty_7_1, ty_7_2, ty_7_3, ty_7_4, ty_7_5, ty_7_6, ty_7_7, ty_7_8, ty_7_9, ty_7_10, ty_7_11, ty_7_12, ty_7_13, ty_7_14, ty_7_15, ty_7_16, ty_7_17, ty_7_18, ty_7_19, ty_7_20, ty_7_21, ty_7_22, ty_7_23, ty_7_24, ty_7_25, ty_7_26, ty_7_27, ty_7_28, ty_7_29, ty_7_30, ty_7_31, ty_7_32, ty_7_33, ty_7_34, ty_7_35, ty_7_36, ty_7_37, ty_7_38, ty_7_39, ty_7_40, fit_o, go_push, go_21, N_1]
  rw [e_Dp_init_50]
  simp (disch := first | exact ev_ok_i _ | exact ev_ok_r _ | exact ev_ok_n | omega | assumption | decide) only [ev_rm_n, ev_rm_i, ev_rm_r, ev_rm_l, ev_ok_n, ev_ok_i, ev_ok_r, Option.toList_some, Option.toList_none, List.cons_append, List.nil_append, true_and, and_true, true_or, or_true, reduceIte, Nat.reduceEqDiff, if_true, if_false]
  -- what holds now
  unfold go
  refine c_eqInit (j := 35) (d := d + 1) (by decide) rfl (by rw [va_up_ne _ _ (by decide), va_up_self]) (fun C4 a1 a2 a3 => ?_)
  have z4 := a3 0 (by decide)
  rw [va_up_self] at z4
  have I4 : cl_Iv B (fun i => i = 0) 37 C4 := fun u hu hs => by
    by_cases e1 : u = 35
    · rw [e1]; exact a1
    · by_cases e2 : u = 36
      · rw [e2]; exact a2
      · rw [a3 u (by omega)]
        exact cl_Iv_0 (cl_Iv_p I3) u (by omega) hs
  rw [gl_go z4]
  simp (disch := first | exact ev_ok_i _ | exact ev_ok_r _ | exact ev_ok_n | omega | assumption | decide) only [e_Dp_init_53, e_Dp_init_56, e_Dp_init_57, e_Dp_init_60, ev_rm_n, ev_rm_i, ev_rm_r, ev_rm_l, ev_ok_n, ev_ok_i, ev_ok_r, Option.toList_some, Option.toList_none, List.cons_append, List.nil_append, true_and, and_true, true_or, or_true, reduceIte, Nat.reduceEqDiff, if_true, if_false, go0_pf, ty_0_0, ty_0_1, ty_0_2, ty_0_3, ty_0_4, ty_0_5, ty_0_6, ty_0_7, ty_1_0, ty_1_1, ty_1_2, ty_1_3, ty_2_0, ty_2_1, ty_2_2, ty_2_3, ty_2_4, ty_2_5, ty_2_6, ty_2_7, ty_3_0, ty_3_1, ty_3_2, ty_3_3, ty_3_4, ty_3_5, ty_3_6, ty_4_0, ty_4_1, ty_5_0, ty_5_1, ty_6_0, ty_6_1, ty_6_2, ty_6_3, ty_6_4, ty_6_5, ty_6_6, ty_7_0, ty_7_1, ty_7_2, ty_7_3, ty_7_4, ty_7_5, ty_7_6, ty_7_7, ty_7_8, ty_7_9, ty_7_10, ty_7_11, ty_7_12, ty_7_13, ty_7_14, ty_7_15, ty_7_16, ty_7_17, ty_7_18, ty_7_19, ty_7_20, ty_7_21, ty_7_22, ty_7_23, ty_7_24, ty_7_25, ty_7_26, ty_7_27, ty_7_28, ty_7_29, ty_7_30, ty_7_31, ty_7_32, ty_7_33, ty_7_34, ty_7_35, ty_7_36, ty_7_37, ty_7_38, ty_7_39, ty_7_40, fit_o, go_push, go_21, N_1]
  rw [e_Dp_init_61]
  simp (disch := first | exact ev_ok_i _ | exact ev_ok_r _ | exact ev_ok_n | omega | assumption | decide) only [ev_rm_n, ev_rm_i, ev_rm_r, ev_rm_l, ev_ok_n, ev_ok_i, ev_ok_r, Option.toList_some, Option.toList_none, List.cons_append, List.nil_append, true_and, and_true, true_or, or_true, reduceIte, Nat.reduceEqDiff, if_true, if_false]
  unfold go
  refine c_eqInit (j := 37) (d := d + 1) (by decide) rfl (by rw [va_up_ne _ _ (by decide), va_up_self]) (fun C5 b1 b2 b3 => ?_)
  have z5 := b3 0 (by decide)
  rw [va_up_self] at z5
  have I5 : cl_Iv B (fun i => i = 0) 39 C5 := fun u hu hs => by
    by_cases e1 : u = 37
    · rw [e1]; exact b1
    · by_cases e2 : u = 38
      · rw [e2]; exact b2
      · rw [b3 u (by omega)]
        exact cl_Iv_0 (cl_Iv_p I4) u (by omega) hs
  rw [gl_go z5]
  generalize hF4 : va_up (va_up F3 2 (.ref (B + 34))) 3 (.ref (B + 35)) = F4
  have u1 : va_up F4 4 (.ref (B + 37)) 1 = .ref (B + 3) := by rw [← hF4]; exact t1
  simp (disch := first | exact ev_ok_i _ | exact ev_ok_r _ | exact ev_ok_n | omega | assumption | decide) only [e_Dp_init_64, e_Dp_init_67, e_Dp_init_68, e_Dp_init_71, e_Dp_init_72, e_Dp_init_73, ev_rm_n, ev_rm_i, ev_rm_r, ev_rm_l, ev_ok_n, ev_ok_i, ev_ok_r, Option.toList_some, Option.toList_none, List.cons_append, List.nil_append, true_and, and_true, true_or, or_true, reduceIte, Nat.reduceEqDiff, if_true, if_false, go0_pf, go0_gf, ty_0_0, ty_0_1, ty_0_2, ty_0_3, ty_0_4, ty_0_5, ty_0_6, ty_0_7, ty_1_0, ty_1_1, ty_1_2, ty_1_3, ty_2_0, ty_2_1, ty_2_2, ty_2_3, ty_2_4, ty_2_5, ty_2_6, ty_2_7, ty_3_0, ty_3_1, ty_3_2, ty_3_3, ty_3_4, ty_3_5, ty_3_6, ty_4_0, ty_4_1, ty_5_0, ty_5_1, ty_6_0, ty_6_1, ty_6_2, ty_6_3, ty_6_4, ty_6_5, ty_6_6, ty_7_0, ty_7_1, ty_7_2, ty_7_3, ty_7_4, ty_7_5, ty_7_6, ty_7_7, ty_7_8, ty_7_9, ty_7_10, ty_7_11, ty_7_12, ty_7_13, ty_7_14, ty_7_15, ty_7_16, ty_7_17, ty_7_18, ty_7_19, ty_7_20, ty_7_21, ty_7_22, ty_7_23, ty_7_24, ty_7_25, ty_7_26, ty_7_27, ty_7_28, ty_7_29, ty_7_30, ty_7_31, ty_7_32, ty_7_33, ty_7_34, ty_7_35, ty_7_36, ty_7_37, ty_7_38, ty_7_39, ty_7_40, fit_o, go_push, go_21, N_3, u1]
  rw [e_Dp_init_76]
  simp (disch := first | exact ev_ok_i _ | exact ev_ok_r _ | exact ev_ok_n | omega | assumption | decide) only [ev_rm_n, ev_rm_i, ev_rm_r, ev_rm_l, ev_ok_n, ev_ok_i, ev_ok_r, Option.toList_some, Option.toList_none, List.cons_append, List.nil_append, true_and, and_true, true_or, or_true, reduceIte, Nat.reduceEqDiff, if_true, if_false]
  -- the saturator
  unfold go
  refine c_saInit (d := d) (by rw [va_up_ne _ _ (by decide), va_up_self]) (cl_Iv_0 (cl_Iv_p I5)) (fun C6 I6 z6 => ?_)
  rw [va_up_self] at z6
  rw [gl_go z6]
  generalize hF5 : va_up F4 4 (.ref (B + 37)) = F5 at u1
  have v1 : va_up F5 5 (.ref (B + 39)) 1 = .ref (B + 3) := u1
  simp (disch := first | exact ev_ok_i _ | exact ev_ok_r _ | exact ev_ok_n | omega | assumption | decide) only [e_Dp_init_79, e_Dp_init_82, e_Dp_init_83, e_Dp_init_86, e_Dp_init_87, e_Dp_init_88, ev_rm_n, ev_rm_i, ev_rm_r, ev_rm_l, ev_ok_n, ev_ok_i, ev_ok_r, Option.toList_some, Option.toList_none, List.cons_append, List.nil_append, true_and, and_true, true_or, or_true, reduceIte, Nat.reduceEqDiff, if_true, if_false, go0_pf, go0_gf, ty_0_0, ty_0_1, ty_0_2, ty_0_3, ty_0_4, ty_0_5, ty_0_6, ty_0_7, ty_1_0, ty_1_1, ty_1_2, ty_1_3, ty_2_0, ty_2_1, ty_2_2, ty_2_3, ty_2_4, ty_2_5, ty_2_6, ty_2_7, ty_3_0, ty_3_1, ty_3_2, ty_3_3, ty_3_4, ty_3_5, ty_3_6, ty_4_0, ty_4_1, ty_5_0, ty_5_1, ty_6_0, ty_6_1, ty_6_2, ty_6_3, ty_6_4, ty_6_5, ty_6_6, ty_7_0, ty_7_1, ty_7_2, ty_7_3, ty_7_4, ty_7_5, ty_7_6, ty_7_7, ty_7_8, ty_7_9, ty_7_10, ty_7_11, ty_7_12, ty_7_13, ty_7_14, ty_7_15, ty_7_16, ty_7_17, ty_7_18, ty_7_19, ty_7_20, ty_7_21, ty_7_22, ty_7_23, ty_7_24, ty_7_25, ty_7_26, ty_7_27, ty_7_28, ty_7_29, ty_7_30, ty_7_31, ty_7_32, ty_7_33, ty_7_34, ty_7_35, ty_7_36, ty_7_37, ty_7_38, ty_7_39, ty_7_40, fit_o, go_push, go_21, N_4, v1]
  rw [e_Dp_init_91]
  simp (disch := first | exact ev_ok_i _ | exact ev_ok_r _ | exact ev_ok_n | omega | assumption | decide) only [ev_rm_n, ev_rm_i, ev_rm_r, ev_rm_l, ev_ok_n, ev_ok_i, ev_ok_r, Option.toList_some, Option.toList_none, List.cons_append, List.nil_append, true_and, and_true, true_or, or_true, reduceIte, Nat.reduceEqDiff, if_true, if_false]
  -- the table
  unfold go
  refine c_taInit (by rw [va_up_ne _ _ (by decide), va_up_self]) (cl_Iv_0 (cl_Iv_p I6)) (fun C7 I7 z7 => ?_)
  rw [va_up_self] at z7
  rw [gl_go z7]
  simp (disch := first | exact ev_ok_i _ | exact ev_ok_r _ | exact ev_ok_n | omega | assumption | decide) only [e_Dp_init_94, e_Dp_init_97, ev_rm_n, ev_rm_i, ev_rm_r, ev_rm_l, ev_ok_n, ev_ok_i, ev_ok_r, Option.toList_some, Option.toList_none, List.cons_append, List.nil_append, true_and, and_true, true_or, or_true, reduceIte, Nat.reduceEqDiff, if_true, if_false, go0_pf, ty_0_0, ty_0_1, ty_0_2, ty_0_3, ty_0_4, ty_0_5, ty_0_6, ty_0_7, ty_1_0, ty_1_1, ty_1_2, ty_1_3, ty_2_0, ty_2_1, ty_2_2, ty_2_3, ty_2_4, ty_2_5, ty_2_6, ty_2_7, ty_3_0, ty_3_1, ty_3_2, ty_3_3, ty_3_4, ty_3_5, ty_3_6, ty_4_0, ty_4_1, ty_5_0, ty_5_1, ty_6_0, ty_6_1, ty_6_2, ty_6_3, ty_6_4, ty_6_5, ty_6_6, ty_7_0, ty_7_1, ty_7_2, ty_7_3, ty_7_4, ty_7_5, ty_7_6, ty_7_7, ty_7_8, ty_7_9, ty_7_10, ty_7_11, ty_7_12, ty_7_13, ty_7_14, ty_7_15, ty_7_16, ty_7_17, ty_7_18, ty_7_19, ty_7_20, ty_7_21, ty_7_22, ty_7_23, ty_7_24, ty_7_25, ty_7_26, ty_7_27, ty_7_28, ty_7_29, ty_7_30, ty_7_31, ty_7_32, ty_7_33, ty_7_34, ty_7_35, ty_7_36, ty_7_37, ty_7_38, ty_7_39, ty_7_40, fit_o]
  have e : go B g 63 C7 (s + 2 + 3000 + 8 + 576 + 8 + 4 + 120 + 4 + 120 + 7 + 1128 + 2 + 120) 0 6 (va_up (va_up F5 5 (.ref (B + 39))) 6 (.ref (B + 61))) = cl_put B cl_0 (g.1, B + 63, s + 5099) := by
    refine Prod.ext (funext fun a => ?_) rfl
    show (if B ≤ a ∧ a < B + 63 then some (va_up C7 0 (.inl (6, va_up (va_up F5 5 (.ref (B + 39))) 6 (.ref (B + 61)))) (a - B)) else g.1 a) = (if B ≤ a ∧ a < B + 63 then some (cl_cell B cl_0 (a - B)) else g.1 a)
    split
    · rename_i h
      congr 1
      by_cases e0 : a - B = 0
      · rw [e0, va_up_self]
        show _ = (.inl (6, fun k => if k < 7 then .ref (B + [1, 3, 34, 35, 37, 39, 61].getD k 0) else .null) : xo_C)
        congr 2
        funext q
        rw [← hF5, ← hF4, ← hF3, ← hF2]
        by_cases q0 : q = 0
        · subst q0; rfl
        · by_cases q1 : q = 1
          · subst q1; rfl
          · by_cases q2 : q = 2
            · subst q2; rfl
            · by_cases q3 : q = 3
              · subst q3; rfl
              · by_cases q4 : q = 4
                · subst q4; rfl
                · by_cases q5 : q = 5
                  · subst q5; rfl
                  · by_cases q6 : q = 6
                    · subst q6; rfl
                    · simp only [va_up, q0, q1, q2, q3, q4, q5, q6, if_false]
                      rw [df_6, if_neg (by omega)]
      · rw [va_up_ne _ _ e0]
        exact I7 (a - B) (by omega) e0
    · rfl
  rw [e]
  exact hQ
end IN3
