/-! THE CLASS's constructors: circuit, reader, table, saturator -/
section IN2
variable {X : xo_X} {d B k s j ci : Nat} {g : xo_G} {C : Nat → xo_C} {F : Nat → Value} {Q : Option Value → xo_G → Prop}
theorem gl_grid {n m : Nat} : xo_grid (gl B g k C s) n m = gl B g (k + 1 + n) (fun i => if i = k then .inr (.array .int, (n, .inr (.inr (.inr (.inr (fun u => if u < n then some (B + k + 1 + u) else none)))))) else if k < i ∧ i < k + 1 + n then .inr (.int, (m, .inl (fun _ => 0))) else C i) (s + n + n * m) := by
  refine Prod.ext (funext fun a => ?_) (by show (B + k + 1 + n, s + n + n * m) = (B + (k + 1 + n), s + n + n * m); rw [show B + k + 1 + n = B + (k + 1 + n) by omega])
  show (if a = B + k then _ else if B + k < a ∧ a < B + k + 1 + n then _ else (if B ≤ a ∧ a < B + k then some (C (a - B)) else g.1 a)) = (if B ≤ a ∧ a < B + (k + 1 + n) then some _ else g.1 a)
  by_cases e : a = B + k
  · subst e
    rw [if_pos rfl, if_pos (by omega)]
    dsimp only
    rw [if_pos (by omega)]
    rfl
  · rw [if_neg e]
    by_cases h : B + k < a ∧ a < B + k + 1 + n
    · rw [if_pos h, if_pos (by omega)]
      dsimp only
      rw [if_neg (by omega), if_pos (by omega)]
    · rw [if_neg h]
      by_cases h2 : B ≤ a ∧ a < B + k
      · rw [if_pos h2, if_pos (by omega)]
        dsimp only
        rw [if_neg (by omega), if_neg (by omega)]
      · rw [if_neg h2, if_neg (by omega)]
theorem go_grid {n m : Nat} (h : j < k) : xo_grid (go B g k C s j ci F) n m = go B g (k + 1 + n) (fun i => if i = k then .inr (.array .int, (n, .inr (.inr (.inr (.inr (fun u => if u < n then some (B + k + 1 + u) else none)))))) else if k < i ∧ i < k + 1 + n then .inr (.int, (m, .inl (fun _ => 0))) else C i) (s + n + n * m) j ci F := by
  unfold go
  rw [gl_grid]
  congr 1
  funext i
  unfold va_up
  by_cases e : i = j
  · rw [if_neg (by omega), if_neg (by omega), if_pos e, if_pos e]
  · rw [if_neg e, if_neg e]
theorem cl0_3 (q : Nat) : cl_0.1 3 q = if q = 6 then 1 else 0 := rfl
theorem cl0_34 (q : Nat) : cl_0.1 34 q = if q = 7 then -1 else 0 := rfl
theorem c_ciInit (hC : C 3 = .inl (0, fun q => xo_df (xp_ty 0 q))) (hI : cl_Iv B (fun i => i = 0) 3 C) (hQ : ∀ C2, cl_Iv B (fun i => i = 0) 34 C2 → C2 0 = C 0 → Q none (gl B g 34 C2 (s + 576))) : ev_C X d m_Ci_init [.ref (B + 3)] (gl B g 4 C s) Q := by
  show ev_R X d m_Ci_init 0 [some (.ref (B + 3))] [] (gl B g 4 C s) Q
  have h120 : (¬ ((120 : Int32) < 0 ∨ 100000 < 120)) = True := eq_true (by decide)
  have c120 : (120 : Int32).toNatClampNeg = 120 := rfl
  have h24 : (¬ ((24 : Int32) < 0 ∨ 100000 < 24)) = True := eq_true (by decide)
  have c24 : (24 : Int32).toNatClampNeg = 24 := rfl
  have c6 : (6 : Int32).toNatClampNeg = 6 := rfl
  have hm : ¬ (6 : Int32) < 0 ∧ ¬ (24 : Int32) < 0 ∧ (24 : Int32).toNatClampNeg ≤ 100000 ∧ (6 : Int32).toNatClampNeg ≤ 100000 := by decide
  rw [gl_go hC]
  simp (disch := first | exact ev_ok_i _ | exact ev_ok_r _ | exact ev_ok_n | omega | assumption | decide) only [e_Ci_init_0, e_Ci_init_1, e_Ci_init_4, e_Ci_init_5, e_Ci_init_7, e_Ci_init_9, e_Ci_init_12, e_Ci_init_13, e_Ci_init_15, e_Ci_init_17, e_Ci_init_20, e_Ci_init_21, e_Ci_init_23, e_Ci_init_25, e_Ci_init_28, e_Ci_init_29, e_Ci_init_31, e_Ci_init_33, e_Ci_init_36, e_Ci_init_37, e_Ci_init_39, ev_rm_n, ev_rm_i, ev_rm_r, ev_rm_l, ev_ok_n, ev_ok_i, ev_ok_r, Option.toList_some, Option.toList_none, List.cons_append, List.nil_append, true_and, and_true, true_or, or_true, reduceIte, Nat.reduceEqDiff, if_true, if_false, go_push, go_21, go_pf, ty_0_0, ty_0_1, ty_0_2, ty_0_3, ty_0_4, ty_0_5, ty_0_6, ty_0_7, ty_1_0, ty_1_1, ty_1_2, ty_1_3, ty_2_0, ty_2_1, ty_2_2, ty_2_3, ty_2_4, ty_2_5, ty_2_6, ty_2_7, ty_3_0, ty_3_1, ty_3_2, ty_3_3, ty_3_4, ty_3_5, ty_3_6, ty_4_0, ty_4_1, ty_5_0, ty_5_1, ty_6_0, ty_6_1, ty_6_2, ty_6_3, ty_6_4, ty_6_5, ty_6_6, ty_7_0, ty_7_1, ty_7_2, ty_7_3, ty_7_4, ty_7_5, ty_7_6, ty_7_7, ty_7_8, ty_7_9, ty_7_10, ty_7_11, ty_7_12, ty_7_13, ty_7_14, ty_7_15, ty_7_16, ty_7_17, ty_7_18, ty_7_19, ty_7_20, ty_7_21, ty_7_22, ty_7_23, ty_7_24, ty_7_25, ty_7_26, ty_7_27, ty_7_28, ty_7_29, ty_7_30, ty_7_31, ty_7_32, ty_7_33, ty_7_34, ty_7_35, ty_7_36, ty_7_37, ty_7_38, ty_7_39, ty_7_40, fit_a, fit_i, h120, c120, h24, c24]
  rw [e_Ci_init_41 hm]
  simp (disch := first | exact ev_ok_i _ | exact ev_ok_r _ | exact ev_ok_n | omega | assumption | decide) only [e_Ci_init_45, e_Ci_init_48, e_Ci_init_49, e_Ci_init_51, e_Ci_init_53, e_Ci_init_56, e_Ci_init_57, e_Ci_init_58, e_Ci_init_61, e_Ci_init_62, e_Ci_init_63, e_Ci_init_66, ev_rm_n, ev_rm_i, ev_rm_r, ev_rm_l, ev_ok_n, ev_ok_i, ev_ok_r, Option.toList_some, Option.toList_none, List.cons_append, List.nil_append, true_and, and_true, true_or, or_true, reduceIte, Nat.reduceEqDiff, if_true, if_false, go_push, go_grid, go_21, go_pf, ty_0_0, ty_0_1, ty_0_2, ty_0_3, ty_0_4, ty_0_5, ty_0_6, ty_0_7, ty_1_0, ty_1_1, ty_1_2, ty_1_3, ty_2_0, ty_2_1, ty_2_2, ty_2_3, ty_2_4, ty_2_5, ty_2_6, ty_2_7, ty_3_0, ty_3_1, ty_3_2, ty_3_3, ty_3_4, ty_3_5, ty_3_6, ty_4_0, ty_4_1, ty_5_0, ty_5_1, ty_6_0, ty_6_1, ty_6_2, ty_6_3, ty_6_4, ty_6_5, ty_6_6, ty_7_0, ty_7_1, ty_7_2, ty_7_3, ty_7_4, ty_7_5, ty_7_6, ty_7_7, ty_7_8, ty_7_9, ty_7_10, ty_7_11, ty_7_12, ty_7_13, ty_7_14, ty_7_15, ty_7_16, ty_7_17, ty_7_18, ty_7_19, ty_7_20, ty_7_21, ty_7_22, ty_7_23, ty_7_24, ty_7_25, ty_7_26, ty_7_27, ty_7_28, ty_7_29, ty_7_30, ty_7_31, ty_7_32, ty_7_33, ty_7_34, ty_7_35, ty_7_36, ty_7_37, ty_7_38, ty_7_39, ty_7_40, fit_a, fit_i, h24, c24, c6, Nat.reduceAdd]
  unfold go
  refine hQ _ (fun i hi h0 => ?_) ?_
  case refine_2 => simp [va_up]
  have h0' : ¬ i = 0 := h0
  by_cases i12 : i < 3
  · rw [← hI i i12 h0]
    simp only [va_up]
    rw [if_neg (by omega), if_neg (by omega), if_neg (by omega), if_neg (by omega), if_neg (by omega), if_neg (by omega), if_neg (by omega), if_neg (by omega)]
  · by_cases i3 : i = 3
    · subst i3
      rw [va_up_self]
      show _ = (.inl (0, fun k => if k < 6 then .ref (B + [4, 5, 6, 7, 8, 33].getD k 0) else .int (cl_0.1 3 k)) : xo_C)
      congr 2
      funext q
      by_cases q0 : q = 0
      · subst q0; rfl
      · by_cases q1 : q = 1
        · subst q1; rfl
        · by_cases q2 : q = 2
          · subst q2; rfl
          · by_cases q3 : q = 3
            · subst q3; rfl
            · by_cases q4 : q = 4
              · subst q4; rfl
              · by_cases q5 : q = 5
                · subst q5; rfl
                · by_cases q6 : q = 6
                  · subst q6; rfl
                  · by_cases q7 : q = 7
                    · subst q7; rfl
                    · simp only [va_up, q0, q1, q2, q3, q4, q5, q6, q7, if_false]
                      rw [df_0, if_neg (by omega), if_neg (by omega)]
                      rw [cl0_3, if_neg q6]
    · by_cases i4 : i = 4
      · subst i4; rfl
      · by_cases i5 : i = 5
        · subst i5; rfl
        · by_cases i6 : i = 6
          · subst i6; rfl
          · by_cases i7 : i = 7
            · subst i7; rfl
            · by_cases i8 : i = 8
              · subst i8
                show (.inr (.array .int, (24, .inr (.inr (.inr (.inr (fun u => if u < 24 then some (B + 8 + 1 + u) else none)))))) : xo_C) = .inr (.array .int, (24, .inr (.inr (.inr (.inr (fun i => if i < 24 then some (B + (9 + i)) else none))))))
                congr 7
                funext u
                rw [show B + 8 + 1 + u = B + (9 + u) by omega]
              · by_cases i33 : i = 33
                · subst i33; rfl
                · have hh : ∃ u, u < 24 ∧ i = 9 + u := ⟨i - 9, by omega, by omega⟩
                  obtain ⟨u, hu, rfl⟩ := hh
                  rw [cl_cell_nm hu]
                  have e : cl_0.1 (9 + u) = fun _ => 0 := by
                    funext q
                    show (if 9 + u ∈ cl_eo then _ else if 9 + u = 3 then _ else if 9 + u = 34 then _ else (0 : Int32)) = 0
                    rw [if_neg (fun z => by have := (cl_eo_lt z).2.2.2; omega), if_neg (by omega), if_neg (by omega)]
                  rw [e]
                  simp only [va_up]
                  rw [if_neg (by omega), if_neg (by omega), if_neg (by omega), if_pos (by omega)]
theorem c_reInit (hC : C 34 = .inl (2, fun q => xo_df (xp_ty 2 q))) (hI : cl_Iv B (fun i => i = 0) 34 C) (hQ : ∀ C2, cl_Iv B (fun i => i = 0) 35 C2 → C2 0 = C 0 → Q none (gl B g 35 C2 s)) : ev_C X d m_Re_init [.ref (B + 34), .ref (B + 1), .ref (B + 3)] (gl B g 35 C s) Q := by
  show ev_R X d m_Re_init 0 [some (.ref (B + 34)), some (.ref (B + 1)), some (.ref (B + 3))] [] (gl B g 35 C s) Q
  rw [gl_go hC]
  simp (disch := first | exact ev_ok_i _ | exact ev_ok_r _ | exact ev_ok_n | omega | assumption | decide) only [e_Re_init_0, e_Re_init_1, e_Re_init_4, e_Re_init_5, e_Re_init_6, e_Re_init_9, e_Re_init_10, e_Re_init_11, e_Re_init_14, e_Re_init_15, e_Re_init_16, e_Re_init_19, e_Re_init_20, e_Re_init_21, e_Re_init_24, e_Re_init_25, e_Re_init_26, e_Re_init_29, e_Re_init_30, e_Re_init_31, e_Re_init_34, e_Re_init_35, e_Re_init_36, e_Re_init_39, e_Re_init_40, e_Re_init_41, e_Re_init_44, ev_rm_n, ev_rm_i, ev_rm_r, ev_rm_l, ev_ok_n, ev_ok_i, ev_ok_r, Option.toList_some, Option.toList_none, List.cons_append, List.nil_append, true_and, and_true, true_or, or_true, reduceIte, Nat.reduceEqDiff, if_true, if_false, go_pf, ty_0_0, ty_0_1, ty_0_2, ty_0_3, ty_0_4, ty_0_5, ty_0_6, ty_0_7, ty_1_0, ty_1_1, ty_1_2, ty_1_3, ty_2_0, ty_2_1, ty_2_2, ty_2_3, ty_2_4, ty_2_5, ty_2_6, ty_2_7, ty_3_0, ty_3_1, ty_3_2, ty_3_3, ty_3_4, ty_3_5, ty_3_6, ty_4_0, ty_4_1, ty_5_0, ty_5_1, ty_6_0, ty_6_1, ty_6_2, ty_6_3, ty_6_4, ty_6_5, ty_6_6, ty_7_0, ty_7_1, ty_7_2, ty_7_3, ty_7_4, ty_7_5, ty_7_6, ty_7_7, ty_7_8, ty_7_9, ty_7_10, ty_7_11, ty_7_12, ty_7_13, ty_7_14, ty_7_15, ty_7_16, ty_7_17, ty_7_18, ty_7_19, ty_7_20, ty_7_21, ty_7_22, ty_7_23, ty_7_24, ty_7_25, ty_7_26, ty_7_27, ty_7_28, ty_7_29, ty_7_30, ty_7_31, ty_7_32, ty_7_33, ty_7_34, ty_7_35, ty_7_36, ty_7_37, ty_7_38, ty_7_39, ty_7_40, fit_o, fit_i]
  unfold go
  refine hQ _ (fun i hi h0 => ?_) ?_
  case refine_2 => rw [va_up_ne _ _ (by decide)]
  by_cases i34 : i = 34
  · subst i34
    rw [va_up_self]
    show _ = (.inl (2, fun k => if k < 2 then .ref (B + [1, 3].getD k 0) else .int (cl_0.1 34 k)) : xo_C)
    congr 2
    funext q
    by_cases q0 : q = 0
    · subst q0; rfl
    · by_cases q1 : q = 1
      · subst q1; rfl
      · by_cases q2 : q = 2
        · subst q2; rfl
        · by_cases q3 : q = 3
          · subst q3; rfl
          · by_cases q4 : q = 4
            · subst q4; rfl
            · by_cases q5 : q = 5
              · subst q5; rfl
              · by_cases q6 : q = 6
                · subst q6; rfl
                · by_cases q7 : q = 7
                  · subst q7; rfl
                  · simp only [va_up, q0, q1, q2, q3, q4, q5, q6, q7, if_false]
                    rw [df_2, if_neg (by omega), if_neg (by omega)]
                    rw [cl0_34, if_neg q7]
  · rw [va_up_ne _ _ i34]
    exact hI i (by omega) h0
theorem c_taInit (hC : C 61 = .inl (4, fun q => xo_df (xp_ty 4 q))) (hI : cl_Iv B (fun i => i = 0) 61 C) (hQ : ∀ C2, cl_Iv B (fun i => i = 0) 63 C2 → C2 0 = C 0 → Q none (gl B g 63 C2 (s + 120))) : ev_C X d m_Ta_init [.ref (B + 61), .ref (B + 3)] (gl B g 62 C s) Q := by
  show ev_R X d m_Ta_init 0 [some (.ref (B + 61)), some (.ref (B + 3))] [] (gl B g 62 C s) Q
  have h120 : (¬ ((120 : Int32) < 0 ∨ 100000 < 120)) = True := eq_true (by decide)
  have c120 : (120 : Int32).toNatClampNeg = 120 := rfl
  rw [gl_go hC]
  simp (disch := first | exact ev_ok_i _ | exact ev_ok_r _ | exact ev_ok_n | omega | assumption | decide) only [e_Ta_init_0, e_Ta_init_1, e_Ta_init_4, e_Ta_init_5, e_Ta_init_7, e_Ta_init_9, e_Ta_init_12, e_Ta_init_13, e_Ta_init_14, e_Ta_init_17, ev_rm_n, ev_rm_i, ev_rm_r, ev_rm_l, ev_ok_n, ev_ok_i, ev_ok_r, Option.toList_some, Option.toList_none, List.cons_append, List.nil_append, true_and, and_true, true_or, or_true, reduceIte, Nat.reduceEqDiff, if_true, if_false, go_push, go_21, go_pf, ty_0_0, ty_0_1, ty_0_2, ty_0_3, ty_0_4, ty_0_5, ty_0_6, ty_0_7, ty_1_0, ty_1_1, ty_1_2, ty_1_3, ty_2_0, ty_2_1, ty_2_2, ty_2_3, ty_2_4, ty_2_5, ty_2_6, ty_2_7, ty_3_0, ty_3_1, ty_3_2, ty_3_3, ty_3_4, ty_3_5, ty_3_6, ty_4_0, ty_4_1, ty_5_0, ty_5_1, ty_6_0, ty_6_1, ty_6_2, ty_6_3, ty_6_4, ty_6_5, ty_6_6, ty_7_0, ty_7_1, ty_7_2, ty_7_3, ty_7_4, ty_7_5, ty_7_6, ty_7_7, ty_7_8, ty_7_9, ty_7_10, ty_7_11, ty_7_12, ty_7_13, ty_7_14, ty_7_15, ty_7_16, ty_7_17, ty_7_18, ty_7_19, ty_7_20, ty_7_21, ty_7_22, ty_7_23, ty_7_24, ty_7_25, ty_7_26, ty_7_27, ty_7_28, ty_7_29, ty_7_30, ty_7_31, ty_7_32, ty_7_33, ty_7_34, ty_7_35, ty_7_36, ty_7_37, ty_7_38, ty_7_39, ty_7_40, fit_a, fit_o, h120, c120]
  unfold go
  refine hQ _ (fun i hi h0 => ?_) ?_
  case refine_2 => rw [va_up_ne _ _ (by decide), va_up_ne _ _ (by decide)]
  by_cases i61 : i = 61
  · subst i61
    rw [va_up_self]
    show _ = (.inl (4, fun k => if k < 2 then .ref (B + [3, 62].getD k 0) else .null) : xo_C)
    congr 2
    funext q
    by_cases q0 : q = 0
    · subst q0; rfl
    · by_cases q1 : q = 1
      · subst q1; rfl
      · simp only [va_up, q0, q1, if_false]
        rw [df_4, if_neg (by omega)]
  · rw [va_up_ne _ _ i61]
    by_cases i62 : i = 62
    · subst i62; rfl
    · rw [va_up_ne _ _ i62]
      exact hI i (by omega) h0
theorem gl_qs {a x n : Nat} {i : Int32} {f : Nat → Option Nat} {F : Nat → Value} {K : xo_G → Prop} (ha : a < k) (hx : x < k) (hCa : C a = .inr (.object "DilemmaProver$Equivalence", (n, .inr (.inr (.inr (.inr f)))))) (hCx : C x = .inl (1, F)) (ho : xo_out i n = false) : ev_qs (gl B g k C s) (B + a) i (B + x) K ↔ K (gl B g k (va_up C a (.inr (.object "DilemmaProver$Equivalence", (n, .inr (.inr (.inr (.inr (va_up f i.toNatClampNeg (some (B + x)))))))))) s) := by
  unfold ev_qs
  rw [gl_at ha, gl_at hx, hCa, hCx]
  dsimp only
  rw [gl_set ha, ho]
  simp
end IN2
