/-! THE REFERENCE's constructor -/
def md_0 : md_S := (fun k => if k = 3 then 1 else if k = 19 then -1 else 0, fun q j => if q = 8 ∧ j = 1 then 1 else 0)
section IN4
variable {X : xo_X} {d B k s j ci : Nat} {g : xo_G} {C : Nat → xo_C} {F : Nat → Value} {Q : Option Value → xo_G → Prop}
theorem nl_120 : (¬ ((120 : Int32) < 0 ∨ 100000 < 120)) = True := eq_true (by decide)
theorem nl_24 : (¬ ((24 : Int32) < 0 ∨ 100000 < 24)) = True := eq_true (by decide)
theorem nl_144 : (¬ ((144 : Int32) < 0 ∨ 100000 < 144)) = True := eq_true (by decide)
theorem nl_240 : (¬ ((240 : Int32) < 0 ∨ 100000 < 240)) = True := eq_true (by decide)
theorem nl_3000 : (¬ ((3000 : Int32) < 0 ∨ 100000 < 3000)) = True := eq_true (by decide)
theorem nl_400 : (¬ ((400 : Int32) < 0 ∨ 100000 < 400)) = True := eq_true (by decide)
theorem nl_1440 : (¬ ((1440 : Int32) < 0 ∨ 100000 < 1440)) = True := eq_true (by decide)
theorem nl_6 : (¬ ((6 : Int32) < 0 ∨ 100000 < 6)) = True := eq_true (by decide)
theorem nc_120 : (120 : Int32).toNatClampNeg = 120 := rfl
theorem nc_24 : (24 : Int32).toNatClampNeg = 24 := rfl
theorem nc_144 : (144 : Int32).toNatClampNeg = 144 := rfl
theorem nc_240 : (240 : Int32).toNatClampNeg = 240 := rfl
theorem nc_3000 : (3000 : Int32).toNatClampNeg = 3000 := rfl
theorem nc_400 : (400 : Int32).toNatClampNeg = 400 := rfl
theorem nc_1440 : (1440 : Int32).toNatClampNeg = 1440 := rfl
theorem nc_6 : (6 : Int32).toNatClampNeg = 6 := rfl
theorem go_is {c n : Nat} {f : Nat → Int32} {i x : Int32} {K : xo_G → Prop} (hc : c < k) (hj : ¬ c = j) (hC : C c = .inr (.int, (n, .inl f))) (ho : xo_out i n = false) : ev_is (go B g k C s j ci F) (B + c) i x K ↔ K (go B g k (va_up C c (.inr (.int, (n, .inl (upd f i.toNatClampNeg x))))) s j ci F) := by
  unfold ev_is go
  rw [gl_at hc, va_up_ne _ _ hj, hC]
  dsimp only
  rw [gl_set hc, ho, va_up_cm _ _ _ (fun z => hj z.symm)]
  simp
theorem c_mdInit (hC : C 0 = .inl (7, fun q => xo_df (xp_ty 7 q))) (hQ : Q none (md_put B md_0 (g.1, B + 23, s + 8788))) : ev_C X d m_Md_init [.ref B] (gl B g 1 C s) Q := by
  show ev_R X d m_Md_init 0 [some (.ref B)] [] (gl B g 1 C s) Q
  rw [gl_go hC]
  generalize hF0 : (fun q => xo_df (xp_ty 7 q)) = F0
  generalize hC0 : C = C0
  simp (disch := first | exact ev_ok_i _ | exact ev_ok_r _ | exact ev_ok_n | omega | assumption | decide) only [e_Md_init_0, e_Md_init_1, ev_rm_n, ev_rm_i, ev_rm_r, ev_rm_l, ev_ok_n, ev_ok_i, ev_ok_r, Option.toList_some, Option.toList_none, List.cons_append, List.nil_append, true_and, and_true, true_or, or_true, reduceIte, Nat.reduceEqDiff, if_true, if_false]
  simp (disch := first | exact ev_ok_i _ | exact ev_ok_r _ | exact ev_ok_n | omega | assumption | decide) only [e_Md_init_4, e_Md_init_5, e_Md_init_9, e_Md_init_7, ev_rm_n, ev_rm_i, ev_rm_r, ev_rm_l, ev_ok_n, ev_ok_i, ev_ok_r, Option.toList_some, Option.toList_none, List.cons_append, List.nil_append, true_and, and_true, true_or, or_true, reduceIte, Nat.reduceEqDiff, if_true, if_false, go0_pf, go_push, go_21, ty_7_0, fit_a, nl_120, nc_120, Nat.reduceAdd]
  generalize hC1 : va_up C0 1 (.inr (.int, (120, .inl (fun _ => 0)))) = C1
  generalize hF1 : va_up F0 0 (.ref (B + 1)) = F1
  simp (disch := first | exact ev_ok_i _ | exact ev_ok_r _ | exact ev_ok_n | omega | assumption | decide) only [e_Md_init_12, e_Md_init_13, e_Md_init_17, e_Md_init_15, ev_rm_n, ev_rm_i, ev_rm_r, ev_rm_l, ev_ok_n, ev_ok_i, ev_ok_r, Option.toList_some, Option.toList_none, List.cons_append, List.nil_append, true_and, and_true, true_or, or_true, reduceIte, Nat.reduceEqDiff, if_true, if_false, go0_pf, go_push, go_21, ty_7_1, fit_a, nl_120, nc_120, Nat.reduceAdd]
  generalize hC2 : va_up C1 2 (.inr (.int, (120, .inl (fun _ => 0)))) = C2
  generalize hF2 : va_up F1 1 (.ref (B + 2)) = F2
  simp (disch := first | exact ev_ok_i _ | exact ev_ok_r _ | exact ev_ok_n | omega | assumption | decide) only [e_Md_init_20, e_Md_init_21, e_Md_init_25, e_Md_init_23, ev_rm_n, ev_rm_i, ev_rm_r, ev_rm_l, ev_ok_n, ev_ok_i, ev_ok_r, Option.toList_some, Option.toList_none, List.cons_append, List.nil_append, true_and, and_true, true_or, or_true, reduceIte, Nat.reduceEqDiff, if_true, if_false, go0_pf, go_push, go_21, ty_7_2, fit_a, nl_120, nc_120, Nat.reduceAdd]
  generalize hC3 : va_up C2 3 (.inr (.int, (120, .inl (fun _ => 0)))) = C3
  generalize hF3 : va_up F2 2 (.ref (B + 3)) = F3
  simp (disch := first | exact ev_ok_i _ | exact ev_ok_r _ | exact ev_ok_n | omega | assumption | decide) only [e_Md_init_28, e_Md_init_29, e_Md_init_33, e_Md_init_31, ev_rm_n, ev_rm_i, ev_rm_r, ev_rm_l, ev_ok_n, ev_ok_i, ev_ok_r, Option.toList_some, Option.toList_none, List.cons_append, List.nil_append, true_and, and_true, true_or, or_true, reduceIte, Nat.reduceEqDiff, if_true, if_false, go0_pf, go_push, go_21, ty_7_5, fit_a, nl_24, nc_24, Nat.reduceAdd]
  generalize hC4 : va_up C3 4 (.inr (.int, (24, .inl (fun _ => 0)))) = C4
  generalize hF4 : va_up F3 5 (.ref (B + 4)) = F4
  simp (disch := first | exact ev_ok_i _ | exact ev_ok_r _ | exact ev_ok_n | omega | assumption | decide) only [e_Md_init_36, e_Md_init_37, e_Md_init_42, e_Md_init_40, ev_rm_n, ev_rm_i, ev_rm_r, ev_rm_l, ev_ok_n, ev_ok_i, ev_ok_r, Option.toList_some, Option.toList_none, List.cons_append, List.nil_append, true_and, and_true, true_or, or_true, reduceIte, Nat.reduceEqDiff, if_true, if_false, go0_pf, go_push, go_21, ty_7_6, fit_a, nl_144, nc_144, Nat.reduceAdd]
  generalize hC5 : va_up C4 5 (.inr (.int, (144, .inl (fun _ => 0)))) = C5
  generalize hF5 : va_up F4 6 (.ref (B + 5)) = F5
  simp (disch := first | exact ev_ok_i _ | exact ev_ok_r _ | exact ev_ok_n | omega | assumption | decide) only [e_Md_init_45, e_Md_init_46, e_Md_init_50, e_Md_init_48, ev_rm_n, ev_rm_i, ev_rm_r, ev_rm_l, ev_ok_n, ev_ok_i, ev_ok_r, Option.toList_some, Option.toList_none, List.cons_append, List.nil_append, true_and, and_true, true_or, or_true, reduceIte, Nat.reduceEqDiff, if_true, if_false, go0_pf, go_push, go_21, ty_7_7, fit_a, nl_24, nc_24, Nat.reduceAdd]
  generalize hC6 : va_up C5 6 (.inr (.int, (24, .inl (fun _ => 0)))) = C6
  generalize hF6 : va_up F5 7 (.ref (B + 6)) = F6
  simp (disch := first | exact ev_ok_i _ | exact ev_ok_r _ | exact ev_ok_n | omega | assumption | decide) only [e_Md_init_53, e_Md_init_54, e_Md_init_59, e_Md_init_57, ev_rm_n, ev_rm_i, ev_rm_r, ev_rm_l, ev_ok_n, ev_ok_i, ev_ok_r, Option.toList_some, Option.toList_none, List.cons_append, List.nil_append, true_and, and_true, true_or, or_true, reduceIte, Nat.reduceEqDiff, if_true, if_false, go0_pf, go_push, go_21, ty_7_8, fit_a, nl_240, nc_240, Nat.reduceAdd]
  generalize hC7 : va_up C6 7 (.inr (.int, (240, .inl (fun _ => 0)))) = C7
  generalize hF7 : va_up F6 8 (.ref (B + 7)) = F7
  simp (disch := first | exact ev_ok_i _ | exact ev_ok_r _ | exact ev_ok_n | omega | assumption | decide) only [e_Md_init_62, e_Md_init_63, e_Md_init_68, e_Md_init_66, ev_rm_n, ev_rm_i, ev_rm_r, ev_rm_l, ev_ok_n, ev_ok_i, ev_ok_r, Option.toList_some, Option.toList_none, List.cons_append, List.nil_append, true_and, and_true, true_or, or_true, reduceIte, Nat.reduceEqDiff, if_true, if_false, go0_pf, go_push, go_21, ty_7_10, fit_a, nl_3000, nc_3000, Nat.reduceAdd]
  generalize hC8 : va_up C7 8 (.inr (.int, (3000, .inl (fun _ => 0)))) = C8
  generalize hF8 : va_up F7 10 (.ref (B + 8)) = F8
  simp (disch := first | exact ev_ok_i _ | exact ev_ok_r _ | exact ev_ok_n | omega | assumption | decide) only [e_Md_init_71, e_Md_init_72, e_Md_init_73, ev_rm_n, ev_rm_i, ev_rm_r, ev_rm_l, ev_ok_n, ev_ok_i, ev_ok_r, Option.toList_some, Option.toList_none, List.cons_append, List.nil_append, true_and, and_true, true_or, or_true, reduceIte, Nat.reduceEqDiff, if_true, if_false, go0_pf, ty_7_19, fit_i]
  generalize hF9 : va_up F8 19 (.int (-1)) = F9
  simp (disch := first | exact ev_ok_i _ | exact ev_ok_r _ | exact ev_ok_n | omega | assumption | decide) only [e_Md_init_76, e_Md_init_77, e_Md_init_82, e_Md_init_80, ev_rm_n, ev_rm_i, ev_rm_r, ev_rm_l, ev_ok_n, ev_ok_i, ev_ok_r, Option.toList_some, Option.toList_none, List.cons_append, List.nil_append, true_and, and_true, true_or, or_true, reduceIte, Nat.reduceEqDiff, if_true, if_false, go0_pf, go_push, go_21, ty_7_21, fit_a, nl_400, nc_400, Nat.reduceAdd]
  generalize hC9 : va_up C8 9 (.inr (.int, (400, .inl (fun _ => 0)))) = C9
  generalize hF10 : va_up F9 21 (.ref (B + 9)) = F10
  simp (disch := first | exact ev_ok_i _ | exact ev_ok_r _ | exact ev_ok_n | omega | assumption | decide) only [e_Md_init_85, e_Md_init_86, e_Md_init_91, e_Md_init_89, ev_rm_n, ev_rm_i, ev_rm_r, ev_rm_l, ev_ok_n, ev_ok_i, ev_ok_r, Option.toList_some, Option.toList_none, List.cons_append, List.nil_append, true_and, and_true, true_or, or_true, reduceIte, Nat.reduceEqDiff, if_true, if_false, go0_pf, go_push, go_21, ty_7_22, fit_a, nl_400, nc_400, Nat.reduceAdd]
  generalize hC10 : va_up C9 10 (.inr (.int, (400, .inl (fun _ => 0)))) = C10
  generalize hF11 : va_up F10 22 (.ref (B + 10)) = F11
  simp (disch := first | exact ev_ok_i _ | exact ev_ok_r _ | exact ev_ok_n | omega | assumption | decide) only [e_Md_init_94, e_Md_init_95, e_Md_init_100, e_Md_init_98, ev_rm_n, ev_rm_i, ev_rm_r, ev_rm_l, ev_ok_n, ev_ok_i, ev_ok_r, Option.toList_some, Option.toList_none, List.cons_append, List.nil_append, true_and, and_true, true_or, or_true, reduceIte, Nat.reduceEqDiff, if_true, if_false, go0_pf, go_push, go_21, ty_7_23, fit_a, nl_400, nc_400, Nat.reduceAdd]
  generalize hC11 : va_up C10 11 (.inr (.int, (400, .inl (fun _ => 0)))) = C11
  generalize hF12 : va_up F11 23 (.ref (B + 11)) = F12
  simp (disch := first | exact ev_ok_i _ | exact ev_ok_r _ | exact ev_ok_n | omega | assumption | decide) only [e_Md_init_103, e_Md_init_104, e_Md_init_109, e_Md_init_107, ev_rm_n, ev_rm_i, ev_rm_r, ev_rm_l, ev_ok_n, ev_ok_i, ev_ok_r, Option.toList_some, Option.toList_none, List.cons_append, List.nil_append, true_and, and_true, true_or, or_true, reduceIte, Nat.reduceEqDiff, if_true, if_false, go0_pf, go_push, go_21, ty_7_24, fit_a, nl_400, nc_400, Nat.reduceAdd]
  generalize hC12 : va_up C11 12 (.inr (.int, (400, .inl (fun _ => 0)))) = C12
  generalize hF13 : va_up F12 24 (.ref (B + 12)) = F13
  simp (disch := first | exact ev_ok_i _ | exact ev_ok_r _ | exact ev_ok_n | omega | assumption | decide) only [e_Md_init_112, e_Md_init_113, e_Md_init_118, e_Md_init_116, ev_rm_n, ev_rm_i, ev_rm_r, ev_rm_l, ev_ok_n, ev_ok_i, ev_ok_r, Option.toList_some, Option.toList_none, List.cons_append, List.nil_append, true_and, and_true, true_or, or_true, reduceIte, Nat.reduceEqDiff, if_true, if_false, go0_pf, go_push, go_21, ty_7_26, fit_a, nl_1440, nc_1440, Nat.reduceAdd]
  generalize hC13 : va_up C12 13 (.inr (.int, (1440, .inl (fun _ => 0)))) = C13
  generalize hF14 : va_up F13 26 (.ref (B + 13)) = F14
  simp (disch := first | exact ev_ok_i _ | exact ev_ok_r _ | exact ev_ok_n | omega | assumption | decide) only [e_Md_init_121, e_Md_init_122, e_Md_init_126, e_Md_init_124, ev_rm_n, ev_rm_i, ev_rm_r, ev_rm_l, ev_ok_n, ev_ok_i, ev_ok_r, Option.toList_some, Option.toList_none, List.cons_append, List.nil_append, true_and, and_true, true_or, or_true, reduceIte, Nat.reduceEqDiff, if_true, if_false, go0_pf, go_push, go_21, ty_7_27, fit_a, nl_6, nc_6, Nat.reduceAdd]
  generalize hC14 : va_up C13 14 (.inr (.boolean, (6, .inl (fun _ => 0)))) = C14
  generalize hF15 : va_up F14 27 (.ref (B + 14)) = F15
  simp (disch := first | exact ev_ok_i _ | exact ev_ok_r _ | exact ev_ok_n | omega | assumption | decide) only [e_Md_init_129, e_Md_init_130, e_Md_init_135, e_Md_init_133, ev_rm_n, ev_rm_i, ev_rm_r, ev_rm_l, ev_ok_n, ev_ok_i, ev_ok_r, Option.toList_some, Option.toList_none, List.cons_append, List.nil_append, true_and, and_true, true_or, or_true, reduceIte, Nat.reduceEqDiff, if_true, if_false, go0_pf, go_push, go_21, ty_7_28, fit_a, nl_1440, nc_1440, Nat.reduceAdd]
  generalize hC15 : va_up C14 15 (.inr (.int, (1440, .inl (fun _ => 0)))) = C15
  generalize hF16 : va_up F15 28 (.ref (B + 15)) = F16
  simp (disch := first | exact ev_ok_i _ | exact ev_ok_r _ | exact ev_ok_n | omega | assumption | decide) only [e_Md_init_138, e_Md_init_139, e_Md_init_143, e_Md_init_141, ev_rm_n, ev_rm_i, ev_rm_r, ev_rm_l, ev_ok_n, ev_ok_i, ev_ok_r, Option.toList_some, Option.toList_none, List.cons_append, List.nil_append, true_and, and_true, true_or, or_true, reduceIte, Nat.reduceEqDiff, if_true, if_false, go0_pf, go_push, go_21, ty_7_29, fit_a, nl_6, nc_6, Nat.reduceAdd]
  generalize hC16 : va_up C15 16 (.inr (.boolean, (6, .inl (fun _ => 0)))) = C16
  generalize hF17 : va_up F16 29 (.ref (B + 16)) = F17
  simp (disch := first | exact ev_ok_i _ | exact ev_ok_r _ | exact ev_ok_n | omega | assumption | decide) only [e_Md_init_146, e_Md_init_147, e_Md_init_151, e_Md_init_149, ev_rm_n, ev_rm_i, ev_rm_r, ev_rm_l, ev_ok_n, ev_ok_i, ev_ok_r, Option.toList_some, Option.toList_none, List.cons_append, List.nil_append, true_and, and_true, true_or, or_true, reduceIte, Nat.reduceEqDiff, if_true, if_false, go0_pf, go_push, go_21, ty_7_30, fit_a, nl_6, nc_6, Nat.reduceAdd]
  generalize hC17 : va_up C16 17 (.inr (.int, (6, .inl (fun _ => 0)))) = C17
  generalize hF18 : va_up F17 30 (.ref (B + 17)) = F18
  simp (disch := first | exact ev_ok_i _ | exact ev_ok_r _ | exact ev_ok_n | omega | assumption | decide) only [e_Md_init_154, e_Md_init_155, e_Md_init_159, e_Md_init_157, ev_rm_n, ev_rm_i, ev_rm_r, ev_rm_l, ev_ok_n, ev_ok_i, ev_ok_r, Option.toList_some, Option.toList_none, List.cons_append, List.nil_append, true_and, and_true, true_or, or_true, reduceIte, Nat.reduceEqDiff, if_true, if_false, go0_pf, go_push, go_21, ty_7_31, fit_a, nl_6, nc_6, Nat.reduceAdd]
  generalize hC18 : va_up C17 18 (.inr (.int, (6, .inl (fun _ => 0)))) = C18
  generalize hF19 : va_up F18 31 (.ref (B + 18)) = F19
  simp (disch := first | exact ev_ok_i _ | exact ev_ok_r _ | exact ev_ok_n | omega | assumption | decide) only [e_Md_init_162, e_Md_init_163, e_Md_init_167, e_Md_init_165, ev_rm_n, ev_rm_i, ev_rm_r, ev_rm_l, ev_ok_n, ev_ok_i, ev_ok_r, Option.toList_some, Option.toList_none, List.cons_append, List.nil_append, true_and, and_true, true_or, or_true, reduceIte, Nat.reduceEqDiff, if_true, if_false, go0_pf, go_push, go_21, ty_7_32, fit_a, nl_6, nc_6, Nat.reduceAdd]
  generalize hC19 : va_up C18 19 (.inr (.int, (6, .inl (fun _ => 0)))) = C19
  generalize hF20 : va_up F19 32 (.ref (B + 19)) = F20
  simp (disch := first | exact ev_ok_i _ | exact ev_ok_r _ | exact ev_ok_n | omega | assumption | decide) only [e_Md_init_170, e_Md_init_171, e_Md_init_175, e_Md_init_173, ev_rm_n, ev_rm_i, ev_rm_r, ev_rm_l, ev_ok_n, ev_ok_i, ev_ok_r, Option.toList_some, Option.toList_none, List.cons_append, List.nil_append, true_and, and_true, true_or, or_true, reduceIte, Nat.reduceEqDiff, if_true, if_false, go0_pf, go_push, go_21, ty_7_33, fit_a, nl_6, nc_6, Nat.reduceAdd]
  generalize hC20 : va_up C19 20 (.inr (.int, (6, .inl (fun _ => 0)))) = C20
  generalize hF21 : va_up F20 33 (.ref (B + 20)) = F21
  simp (disch := first | exact ev_ok_i _ | exact ev_ok_r _ | exact ev_ok_n | omega | assumption | decide) only [e_Md_init_178, e_Md_init_179, e_Md_init_184, e_Md_init_182, ev_rm_n, ev_rm_i, ev_rm_r, ev_rm_l, ev_ok_n, ev_ok_i, ev_ok_r, Option.toList_some, Option.toList_none, List.cons_append, List.nil_append, true_and, and_true, true_or, or_true, reduceIte, Nat.reduceEqDiff, if_true, if_false, go0_pf, go_push, go_21, ty_7_34, fit_a, nl_240, nc_240, Nat.reduceAdd]
  generalize hC21 : va_up C20 21 (.inr (.int, (240, .inl (fun _ => 0)))) = C21
  generalize hF22 : va_up F21 34 (.ref (B + 21)) = F22
  simp (disch := first | exact ev_ok_i _ | exact ev_ok_r _ | exact ev_ok_n | omega | assumption | decide) only [e_Md_init_187, e_Md_init_188, e_Md_init_193, e_Md_init_191, ev_rm_n, ev_rm_i, ev_rm_r, ev_rm_l, ev_ok_n, ev_ok_i, ev_ok_r, Option.toList_some, Option.toList_none, List.cons_append, List.nil_append, true_and, and_true, true_or, or_true, reduceIte, Nat.reduceEqDiff, if_true, if_false, go0_pf, go_push, go_21, ty_7_40, fit_a, nl_240, nc_240, Nat.reduceAdd]
  generalize hC22 : va_up C21 22 (.inr (.int, (240, .inl (fun _ => 0)))) = C22
  generalize hF23 : va_up F22 40 (.ref (B + 22)) = F23
  simp (disch := first | exact ev_ok_i _ | exact ev_ok_r _ | exact ev_ok_n | omega | assumption | decide) only [e_Md_init_196, e_Md_init_197, e_Md_init_198, e_Md_init_201, ev_rm_n, ev_rm_i, ev_rm_r, ev_rm_l, ev_ok_n, ev_ok_i, ev_ok_r, Option.toList_some, Option.toList_none, List.cons_append, List.nil_append, true_and, and_true, true_or, or_true, reduceIte, Nat.reduceEqDiff, if_true, if_false, go0_pf, ty_7_3, fit_i]
  generalize hF24 : va_up F23 3 (.int 1) = F24
  have f8 : F24 8 = .ref (B + 7) := by rw [← hF24, ← hF23, ← hF22, ← hF21, ← hF20, ← hF19, ← hF18, ← hF17, ← hF16, ← hF15, ← hF14, ← hF13, ← hF12, ← hF11, ← hF10, ← hF9, ← hF8, ← hF7, ← hF6, ← hF5, ← hF4, ← hF3, ← hF2, ← hF1]; rfl
  have c7 : C22 7 = .inr (.int, (240, .inl (fun _ => 0))) := by rw [← hC22, ← hC21, ← hC20, ← hC19, ← hC18, ← hC17, ← hC16, ← hC15, ← hC14, ← hC13, ← hC12, ← hC11, ← hC10, ← hC9, ← hC8, ← hC7, ← hC6, ← hC5, ← hC4, ← hC3, ← hC2, ← hC1]; rfl
  rw [e_Md_init_202, go0_gf (by decide), f8]
  simp (disch := first | exact ev_ok_i _ | exact ev_ok_r _ | exact ev_ok_n | omega | assumption | decide) only [e_Md_init_205, e_Md_init_206, ev_rm_n, ev_rm_i, ev_rm_r, ev_rm_l, ev_ok_n, ev_ok_i, ev_ok_r, Option.toList_some, Option.toList_none, List.cons_append, List.nil_append, true_and, and_true, true_or, or_true, reduceIte, Nat.reduceEqDiff, if_true, if_false]
  rw [e_Md_init_207, go_is (i := 1) (by decide) (by decide) c7 (show xo_out 1 240 = false from xo_in (v := 1) (by decide) (by decide))]
  simp (disch := first | exact ev_ok_i _ | exact ev_ok_r _ | exact ev_ok_n | omega | assumption | decide) only [e_Md_init_208, ev_rm_n, ev_rm_i, ev_rm_r, ev_rm_l, ev_ok_n, ev_ok_i, ev_ok_r, Option.toList_some, Option.toList_none, List.cons_append, List.nil_append, true_and, and_true, true_or, or_true, reduceIte, Nat.reduceEqDiff, if_true, if_false]
  have e : go B g 23 (va_up C22 7 (.inr (.int, (240, .inl (upd (fun _ => 0) (1 : Int32).toNatClampNeg 1))))) (s + 120 + 120 + 120 + 24 + 144 + 24 + 240 + 3000 + 400 + 400 + 400 + 400 + 1440 + 6 + 1440 + 6 + 6 + 6 + 6 + 6 + 240 + 240) 0 7 F24 = md_put B md_0 (g.1, B + 23, s + 8788) := by
    refine Prod.ext (funext fun a => ?_) (by show (B + 23, s + 120 + 120 + 120 + 24 + 144 + 24 + 240 + 3000 + 400 + 400 + 400 + 400 + 1440 + 6 + 1440 + 6 + 6 + 6 + 6 + 6 + 240 + 240) = (B + 23, s + 8788); refine congrArg (Prod.mk _) ?_; omega)
    show (if B ≤ a ∧ a < B + 23 then some (va_up (va_up C22 7 (.inr (.int, (240, .inl (upd (fun _ => 0) (1 : Int32).toNatClampNeg 1))))) 0 (.inl (7, F24)) (a - B)) else g.1 a) = (if B ≤ a ∧ a < B + 23 then some (md_cell B md_0 (a - B)) else g.1 a)
    split
    · rename_i h
      congr 1
      generalize hu : a - B = u
      have hu23 : u < 23 := by omega
      by_cases e0 : u = 0
      · subst e0
        rw [va_up_self]
        show _ = (.inl (7, md_F B md_0) : xo_C)
        congr 2
        funext q
        rw [← hF24, ← hF23, ← hF22, ← hF21, ← hF20, ← hF19, ← hF18, ← hF17, ← hF16, ← hF15, ← hF14, ← hF13, ← hF12, ← hF11, ← hF10, ← hF9, ← hF8, ← hF7, ← hF6, ← hF5, ← hF4, ← hF3, ← hF2, ← hF1, ← hF0]
        unfold md_F
        by_cases q0 : q = 0
        · subst q0; rfl
        by_cases q1 : q = 1
        · subst q1; rfl
        by_cases q2 : q = 2
        · subst q2; rfl
        by_cases q5 : q = 5
        · subst q5; rfl
        by_cases q6 : q = 6
        · subst q6; rfl
        by_cases q7 : q = 7
        · subst q7; rfl
        by_cases q8 : q = 8
        · subst q8; rfl
        by_cases q10 : q = 10
        · subst q10; rfl
        by_cases q21 : q = 21
        · subst q21; rfl
        by_cases q22 : q = 22
        · subst q22; rfl
        by_cases q23 : q = 23
        · subst q23; rfl
        by_cases q24 : q = 24
        · subst q24; rfl
        by_cases q26 : q = 26
        · subst q26; rfl
        by_cases q27 : q = 27
        · subst q27; rfl
        by_cases q28 : q = 28
        · subst q28; rfl
        by_cases q29 : q = 29
        · subst q29; rfl
        by_cases q30 : q = 30
        · subst q30; rfl
        by_cases q31 : q = 31
        · subst q31; rfl
        by_cases q32 : q = 32
        · subst q32; rfl
        by_cases q33 : q = 33
        · subst q33; rfl
        by_cases q34 : q = 34
        · subst q34; rfl
        by_cases q40 : q = 40
        · subst q40; rfl
        by_cases q19 : q = 19
        · subst q19; rfl
        by_cases q3 : q = 3
        · subst q3; rfl
        simp only [va_up, q0, q1, q2, q5, q6, q7, q8, q10, q21, q22, q23, q24, q26, q27, q28, q29, q30, q31, q32, q33, q34, q40, q19, q3, if_false]
        rw [df_7]
        by_cases z : md_ad q = 0
        · rw [if_pos z, if_pos z]
          show Value.int 0 = .int (if q = 3 then 1 else if q = 19 then -1 else 0)
          rw [if_neg q3, if_neg q19]
        · rw [if_neg z, if_neg z]
          have h41 : ¬ q < 41 := fun hq => by
            have all : ∀ q : Fin 41, md_ad q.val = 0 ∨ q.val = 0 ∨ q.val = 1 ∨ q.val = 2 ∨ q.val = 5 ∨ q.val = 6 ∨ q.val = 7 ∨ q.val = 8 ∨ q.val = 10 ∨ q.val = 21 ∨ q.val = 22 ∨ q.val = 23 ∨ q.val = 24 ∨ q.val = 26 ∨ q.val = 27 ∨ q.val = 28 ∨ q.val = 29 ∨ q.val = 30 ∨ q.val = 31 ∨ q.val = 32 ∨ q.val = 33 ∨ q.val = 34 ∨ q.val = 40 := by decide
            have := all ⟨q, hq⟩
            dsimp only at this
            omega
          rw [if_neg h41]
      · rw [va_up_ne _ _ e0]
        rw [← hC22, ← hC21, ← hC20, ← hC19, ← hC18, ← hC17, ← hC16, ← hC15, ← hC14, ← hC13, ← hC12, ← hC11, ← hC10, ← hC9, ← hC8, ← hC7, ← hC6, ← hC5, ← hC4, ← hC3, ← hC2, ← hC1]
        have hcases : u = 1 ∨ u = 2 ∨ u = 3 ∨ u = 4 ∨ u = 5 ∨ u = 6 ∨ u = 7 ∨ u = 8 ∨ u = 9 ∨ u = 10 ∨ u = 11 ∨ u = 12 ∨ u = 13 ∨ u = 14 ∨ u = 15 ∨ u = 16 ∨ u = 17 ∨ u = 18 ∨ u = 19 ∨ u = 20 ∨ u = 21 ∨ u = 22 := by omega
        rcases hcases with z | z | z | z | z | z | z | z | z | z | z | z | z | z | z | z | z | z | z | z | z | z
        · subst z; rfl
        · subst z; rfl
        · subst z; rfl
        · subst z; rfl
        · subst z; rfl
        · subst z; rfl
        · subst z
          show (.inr (.int, (240, .inl (upd (fun _ => 0) 1 1))) : xo_C) = .inr (.int, (240, .inl (fun j => if 8 = 8 ∧ j = 1 then 1 else 0)))
          congr 4
          funext u2
          rw [upd_a]
          by_cases hz : u2 = 1 <;> simp [hz]
        · subst z; rfl
        · subst z; rfl
        · subst z; rfl
        · subst z; rfl
        · subst z; rfl
        · subst z; rfl
        · subst z; rfl
        · subst z; rfl
        · subst z; rfl
        · subst z; rfl
        · subst z; rfl
        · subst z; rfl
        · subst z; rfl
        · subst z; rfl
        · subst z; rfl
    · rfl
  rw [e]
  exact hQ
end IN4
