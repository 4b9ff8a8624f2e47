/-! THE CLASS's constructors: cells laid one behind the other from B on -/
def gl (B : Nat) (g : xo_G) (k : Nat) (C : Nat → xo_C) (s : Nat) : xo_G := (fun a => if B ≤ a ∧ a < B + k then some (C (a - B)) else g.1 a, B + k, s)
/-- the same, with the object at j in sight -/
def go (B : Nat) (g : xo_G) (k : Nat) (C : Nat → xo_C) (s j ci : Nat) (F : Nat → Value) : xo_G := gl B g k (va_up C j (.inl (ci, F))) s
theorem gl_at {B k j s : Nat} {g : xo_G} {C : Nat → xo_C} (h : j < k) : (gl B g k C s).1 (B + j) = some (C j) := by
  show (if B ≤ B + j ∧ B + j < B + k then some (C (B + j - B)) else g.1 (B + j)) = _
  rw [if_pos (by omega), Nat.add_sub_cancel_left]
theorem gl_push {B k s n : Nat} {g : xo_G} {C : Nat → xo_C} {c : xo_C} : xo_push (gl B g k C s) c n = gl B g (k + 1) (va_up C k c) (s + n) := by
  refine Prod.ext (funext fun a => ?_) rfl
  show va_up (gl B g k C s).1 (B + k) (some c) a = (if B ≤ a ∧ a < B + (k + 1) then some (va_up C k c (a - B)) else g.1 a)
  by_cases e : a = B + k
  · subst e
    rw [va_up_self, if_pos (by omega), Nat.add_sub_cancel_left, va_up_self]
  · rw [va_up_ne _ _ e]
    show (if B ≤ a ∧ a < B + k then some (C (a - B)) else g.1 a) = _
    by_cases h : B ≤ a ∧ a < B + k
    · rw [if_pos h, if_pos (by omega), va_up_ne _ _ (by omega)]
    · rw [if_neg h, if_neg (by omega)]
theorem gl_set {B k j s : Nat} {g : xo_G} {C : Nat → xo_C} {c : xo_C} (h : j < k) : xo_set (gl B g k C s) (B + j) c = gl B g k (va_up C j c) s := by
  refine Prod.ext (funext fun a => ?_) rfl
  show va_up (gl B g k C s).1 (B + j) (some c) a = (if B ≤ a ∧ a < B + k then some (va_up C j c (a - B)) else g.1 a)
  by_cases e : a = B + j
  · subst e
    rw [va_up_self, if_pos (by omega), Nat.add_sub_cancel_left, va_up_self]
  · rw [va_up_ne _ _ e]
    show (if B ≤ a ∧ a < B + k then some (C (a - B)) else g.1 a) = _
    by_cases h2 : B ≤ a ∧ a < B + k
    · rw [if_pos h2, if_pos h2, va_up_ne _ _ (by omega)]
    · rw [if_neg h2, if_neg h2]
theorem va_up_same {α : Type} (f : Nat → α) (k : Nat) : va_up f k (f k) = f := by
  funext j
  unfold va_up
  split
  · rename_i e; rw [e]
  · rfl
theorem va_up_2 {α : Type} (f : Nat → α) (k : Nat) (x y : α) : va_up (va_up f k x) k y = va_up f k y := by
  funext j
  unfold va_up
  split <;> rfl
theorem va_up_cm {α : Type} (f : Nat → α) {k j : Nat} (x y : α) (h : ¬ k = j) : va_up (va_up f k x) j y = va_up (va_up f j y) k x := by
  funext i
  unfold va_up
  by_cases a : i = j <;> by_cases b : i = k
  · omega
  · rw [if_pos a, if_neg b, if_pos a]
  · rw [if_neg a, if_pos b, if_pos b]
  · rw [if_neg a, if_neg b, if_neg b, if_neg a]
section IN1
variable {X : xo_X} {d B k s j ci : Nat} {g : xo_G} {C : Nat → xo_C} {F : Nat → Value} {Q : Option Value → xo_G → Prop}
theorem gl_go (h : C j = .inl (ci, F)) : gl B g k C s = go B g k C s j ci F := by
  unfold go
  rw [← h, va_up_same]
theorem go_21 : (go B g k C s j ci F).2.1 = B + k := rfl
theorem go_push {c : xo_C} {n : Nat} (h : j < k) : xo_push (go B g k C s j ci F) c n = go B g (k + 1) (va_up C k c) (s + n) j ci F := by
  unfold go
  rw [gl_push, va_up_cm _ _ _ (by omega)]
theorem go_pf {q : Nat} {v : Value} {K : xo_G → Prop} (h : j < k) : ev_pf (go B g k C s j ci F) (B + j) ci q v True K ↔ xo_fit (xp_ty ci q) v = true ∧ K (go B g k C s j ci (va_up F q v)) := by
  unfold ev_pf go
  rw [gl_at h, va_up_self]
  simp only [true_and, and_true]
  rw [gl_set h, va_up_2]
theorem go_gf {q : Nat} {K : Value → Prop} (h : j < k) : ev_gf (go B g k C s j ci F) (B + j) ci q K ↔ K (F q) := by
  unfold ev_gf go
  rw [gl_at h, va_up_self]
  simp
theorem go_rc {P : Prop} (h : j < k) : ev_rc X (go B g k C s j ci F) (B + j) ci P ↔ P := by
  unfold ev_rc xo_ob go
  rw [gl_at h, va_up_self]
  simp
theorem fit_a {ty : FieldType} {a : Nat} : (xo_fit (.array ty) (.ref a) = true) = True := by simp [xo_fit]
theorem fit_o {c : String} {a : Nat} : (xo_fit (.object c) (.ref a) = true) = True := by simp [xo_fit]
theorem fit_i {v : Int32} : (xo_fit .int (.int v) = true) = True := by simp [xo_fit]
theorem fit_z0 : (xo_fit .boolean (.int 0) = true) = True := by simp [xo_fit]
/-- the state of a new object of the class -/
def cl_0 : cl_S := (fun j k => if j ∈ cl_eo then (if k = 1 then 1 else if k = 2 then 2 else 0) else if j = 3 then (if k = 6 then 1 else 0) else if j = 34 then (if k = 7 then -1 else 0) else 0, fun _ => 0)
theorem nlim {n : Int32} {m : Nat} (h : n = nI m) (hm : m ≤ 100000) : (¬ (n < 0 ∨ 100000 < n.toNatClampNeg)) = True := by
  subst h
  rw [nI_clamp (by omega)]
  refine eq_true (fun z => z.elim (nI_pos (by omega)) (by omega))
theorem cl0_eo (hj : j ∈ cl_eo) : cl_cell B cl_0 j = .inl (1, fun q => if q = 0 then .ref (B + (j + 1)) else .int (if q = 1 then 1 else if q = 2 then 2 else 0)) ∧ cl_cell B cl_0 (j + 1) = .inr (.int, (120, .inl (fun _ => 0))) := by
  have l := cl_eo_lt hj
  refine ⟨?_, ?_⟩
  · rw [cl_cell_eo hj]
    show _ = (.inl (1, fun q => if q = 0 then .ref (B + (j + 1)) else .int (if q = 1 then 1 else if q = 2 then 2 else 0)) : xo_C)
    congr 2
    funext q
    split
    · rfl
    · show Value.int (if j ∈ cl_eo then (if q = 1 then 1 else if q = 2 then 2 else 0) else _) = _
      rw [if_pos hj]
  · rw [cl_cell_ea hj]
    have e : cl_0.1 (j + 1) = fun _ => 0 := by
      funext q
      show (if j + 1 ∈ cl_eo then _ else if j + 1 = 3 then _ else if j + 1 = 34 then _ else (0 : Int32)) = 0
      rw [if_neg l.2.2.1, if_neg (by omega), if_neg (by have := l.2.2.2; omega)]
    rw [e]
/-- an equivalence is made at j, its row behind it -/
theorem c_eqInit (hj : j ∈ cl_eo) (hk : k = j + 1) (hC : C j = .inl (1, fun q => xo_df (xp_ty 1 q))) (hQ : ∀ C2, C2 j = cl_cell B cl_0 j → C2 (j + 1) = cl_cell B cl_0 (j + 1) → (∀ i, i < j → C2 i = C i) → Q none (gl B g (k + 1) C2 (s + 120))) : ev_C X (d + 1) m_Eq_init [.ref (B + j)] (gl B g k C s) Q := by
  show ev_R X (d + 1) m_Eq_init 0 [some (.ref (B + j))] [] (gl B g k C s) Q
  have hjk : j < k := by omega
  have hjk1 : j < k + 1 := by omega
  have h120 : (¬ ((120 : Int32) < 0 ∨ 100000 < 120)) = True := eq_true (by decide)
  have c120 : (120 : Int32).toNatClampNeg = 120 := rfl
  rw [gl_go hC]
  simp (disch := first | exact ev_ok_i _ | exact ev_ok_r _ | exact ev_ok_n | omega | assumption | decide) only [e_Eq_init_0, e_Eq_init_1, e_Eq_init_4, e_Eq_init_5, e_Eq_init_7, e_Eq_init_9, e_Eq_init_12, e_Eq_init_13, e_Eq_init_14, e_Eq_init_17, e_Eq_init_18, e_Eq_init_19, e_Eq_init_22, e_Eq_init_23, e_Eq_init_24, e_Eq_init_27, e_Eq_init_28, ev_rm_n, ev_rm_i, ev_rm_r, ev_rm_l, ev_ok_n, ev_ok_i, ev_ok_r, Option.toList_some, Option.toList_none, List.cons_append, List.nil_append, true_and, and_true, true_or, or_true, reduceIte, Nat.reduceEqDiff, if_true, if_false, go_push, go_21, go_pf, ty_0_0, ty_0_1, ty_0_2, ty_0_3, ty_0_4, ty_0_5, ty_0_6, ty_0_7, ty_1_0, ty_1_1, ty_1_2, ty_1_3, ty_2_0, ty_2_1, ty_2_2, ty_2_3, ty_2_4, ty_2_5, ty_2_6, ty_2_7, ty_3_0, ty_3_1, ty_3_2, ty_3_3, ty_3_4, ty_3_5, ty_3_6, ty_4_0, ty_4_1, ty_5_0, ty_5_1, ty_6_0, ty_6_1, ty_6_2, ty_6_3, ty_6_4, ty_6_5, ty_6_6, ty_7_0, ty_7_1, ty_7_2, ty_7_3, ty_7_4, ty_7_5, ty_7_6, ty_7_7, ty_7_8, ty_7_9, ty_7_10, ty_7_11, ty_7_12, ty_7_13, ty_7_14, ty_7_15, ty_7_16, ty_7_17, ty_7_18, ty_7_19, ty_7_20, ty_7_21, ty_7_22, ty_7_23, ty_7_24, ty_7_25, ty_7_26, ty_7_27, ty_7_28, ty_7_29, ty_7_30, ty_7_31, ty_7_32, ty_7_33, ty_7_34, ty_7_35, ty_7_36, ty_7_37, ty_7_38, ty_7_39, ty_7_40, fit_a, fit_i, fit_z0, h120, c120]
  rw [e_Eq_init_29]
  simp (disch := first | exact ev_ok_i _ | exact ev_ok_r _ | exact ev_ok_n | omega | assumption | decide) only [ev_rm_n, ev_rm_i, ev_rm_r, ev_rm_l, ev_ok_n, ev_ok_i, ev_ok_r, Option.toList_some, Option.toList_none, List.cons_append, List.nil_append, true_and, and_true, true_or, or_true, reduceIte, Nat.reduceEqDiff, if_true, if_false, go_rc]
  -- growTo 1
  show ev_R X d m_Eq_growTo 0 [some (.ref (B + j)), some (.int 1), none] [] _ _
  generalize hF : va_up (va_up (va_up (va_up (fun q => xo_df (xp_ty 1 q)) 0 (.ref (B + k))) 1 (.int 0)) 2 (.int 0)) 3 (.int 0) = F1
  have f0 : F1 0 = .ref (B + k) := by rw [← hF]; rfl
  have f1 : F1 1 = .int 0 := by rw [← hF]; rfl
  have f2 : F1 2 = .int 0 := by rw [← hF]; rfl
  have l01 : ¬ (1 : Int32) ≤ 0 := by decide
  have l0120 : ¬ (120 : Int32) ≤ 0 := by decide
  have ist : ∀ (x : Int32) (K : xo_G → Prop), ev_is (go B g (k + 1) (va_up C k (.inr (.int, (120, .inl (fun _ => 0))))) (s + 120) j 1 F1) (B + k) 0 x K ↔ K (go B g (k + 1) (va_up C k (.inr (.int, (120, .inl (upd (fun _ => 0) 0 x))))) (s + 120) j 1 F1) := fun x K => by
    unfold ev_is go
    rw [gl_at (by omega), va_up_ne _ _ (by omega), va_up_self]
    dsimp only
    rw [gl_set (by omega), va_up_cm _ _ _ (by omega : ¬ j = k), va_up_2]
    have e0 : xo_out 0 120 = false := xo_o0 (by decide) (by decide)
    rw [e0]
    simp
  simp (disch := first | exact ev_ok_i _ | exact ev_ok_r _ | exact ev_ok_n | omega | assumption | decide) only [e_Eq_growTo_0, e_Eq_growTo_1, e_Eq_growTo_4, e_Eq_growTo_5, e_Eq_growTo_6, e_Eq_growTo_7, e_Eq_growTo_10, e_Eq_growTo_11, e_Eq_growTo_13, e_Eq_growTo_16, e_Eq_growTo_17, e_Eq_growTo_20, e_Eq_growTo_21, e_Eq_growTo_22, e_Eq_growTo_23, e_Eq_growTo_24, e_Eq_growTo_25, e_Eq_growTo_26, e_Eq_growTo_27, e_Eq_growTo_30, e_Eq_growTo_31, e_Eq_growTo_32, e_Eq_growTo_35, e_Eq_growTo_36, e_Eq_growTo_37, e_Eq_growTo_40, e_Eq_growTo_41, e_Eq_growTo_42, ev_rm_n, ev_rm_i, ev_rm_r, ev_rm_l, ev_ok_n, ev_ok_i, ev_ok_r, Option.toList_some, Option.toList_none, List.cons_append, List.nil_append, true_and, and_true, true_or, or_true, reduceIte, Nat.reduceEqDiff, if_true, if_false, go_gf, go_pf, ty_0_0, ty_0_1, ty_0_2, ty_0_3, ty_0_4, ty_0_5, ty_0_6, ty_0_7, ty_1_0, ty_1_1, ty_1_2, ty_1_3, ty_2_0, ty_2_1, ty_2_2, ty_2_3, ty_2_4, ty_2_5, ty_2_6, ty_2_7, ty_3_0, ty_3_1, ty_3_2, ty_3_3, ty_3_4, ty_3_5, ty_3_6, ty_4_0, ty_4_1, ty_5_0, ty_5_1, ty_6_0, ty_6_1, ty_6_2, ty_6_3, ty_6_4, ty_6_5, ty_6_6, ty_7_0, ty_7_1, ty_7_2, ty_7_3, ty_7_4, ty_7_5, ty_7_6, ty_7_7, ty_7_8, ty_7_9, ty_7_10, ty_7_11, ty_7_12, ty_7_13, ty_7_14, ty_7_15, ty_7_16, ty_7_17, ty_7_18, ty_7_19, ty_7_20, ty_7_21, ty_7_22, ty_7_23, ty_7_24, ty_7_25, ty_7_26, ty_7_27, ty_7_28, ty_7_29, ty_7_30, ty_7_31, ty_7_32, ty_7_33, ty_7_34, ty_7_35, ty_7_36, ty_7_37, ty_7_38, ty_7_39, ty_7_40, fit_i, f0, f1, f2, l01, l0120, ist, va_up_self, va_up_ne _ _ (show ¬ (1 : Nat) = 2 by decide), if_false]
  rw [e_Eq_growTo_45 (by exact ev_ok_i _), e_Eq_growTo_48]
  have l11 : (1 : Int32) ≤ 0 + 1 := by decide
  simp (disch := first | exact ev_ok_i _ | exact ev_ok_r _ | exact ev_ok_n | omega | assumption | decide) only [e_Eq_growTo_5, e_Eq_growTo_6, e_Eq_growTo_7, e_Eq_growTo_51, ev_rm_n, ev_rm_i, ev_rm_r, ev_rm_l, ev_ok_n, ev_ok_i, ev_ok_r, Option.toList_some, Option.toList_none, List.cons_append, List.nil_append, true_and, and_true, true_or, or_true, reduceIte, Nat.reduceEqDiff, if_true, if_false, l11, if_true]
  simp (disch := first | exact ev_ok_i _ | exact ev_ok_r _ | exact ev_ok_n | omega | assumption | decide) only [e_Eq_init_32, ev_rm_n, ev_rm_i, ev_rm_r, ev_rm_l, ev_ok_n, ev_ok_i, ev_ok_r, Option.toList_some, Option.toList_none, List.cons_append, List.nil_append, true_and, and_true, true_or, or_true, reduceIte, Nat.reduceEqDiff, if_true, if_false]
  unfold go
  refine hQ _ ?_ ?_ (fun i hi => ?_)
  · rw [va_up_self, (cl0_eo hj).1]
    congr 2
    funext q
    rw [← hF, hk]
    by_cases q1 : q = 1
    · subst q1; rfl
    · by_cases q2 : q = 2
      · subst q2; rfl
      · by_cases q0 : q = 0
        · subst q0; rfl
        · by_cases q3 : q = 3
          · subst q3; rfl
          · simp only [va_up, q0, q1, q2, q3, if_false]
            rw [df_1, if_neg q0]
  · rw [va_up_ne _ _ (by omega), hk, va_up_self, (cl0_eo hj).2]
    have : upd (fun _ => (0 : Int32)) 0 (2 * 0) = fun _ => 0 := by
      funext u
      rw [upd_a]
      split <;> rfl
    rw [this]
  · rw [va_up_ne _ _ (by omega), va_up_ne _ _ (by omega)]
/-- all cells but those in S are as they shall be -/
def cl_Iv (B : Nat) (S : Nat → Prop) (k : Nat) (C : Nat → xo_C) : Prop := ∀ i, i < k → ¬ S i → C i = cl_cell B cl_0 i
theorem c_teInit (hC : C 1 = .inl (5, fun q => xo_df (xp_ty 5 q))) (hI : cl_Iv B (fun i => i = 0) 1 C) (hQ : ∀ C2, cl_Iv B (fun i => i = 0) 3 C2 → C2 0 = C 0 → Q none (gl B g 3 C2 (s + 3000))) : ev_C X d m_Te_init [.ref (B + 1)] (gl B g 2 C s) Q := by
  show ev_R X d m_Te_init 0 [some (.ref (B + 1))] [] (gl B g 2 C s) Q
  have h120 : (¬ ((3000 : Int32) < 0 ∨ 100000 < 3000)) = True := eq_true (by decide)
  have c120 : (3000 : Int32).toNatClampNeg = 3000 := rfl
  rw [gl_go hC]
  simp (disch := first | exact ev_ok_i _ | exact ev_ok_r _ | exact ev_ok_n | omega | assumption | decide) only [e_Te_init_0, e_Te_init_1, e_Te_init_4, e_Te_init_5, e_Te_init_8, e_Te_init_10, e_Te_init_13, e_Te_init_14, e_Te_init_15, e_Te_init_18, ev_rm_n, ev_rm_i, ev_rm_r, ev_rm_l, ev_ok_n, ev_ok_i, ev_ok_r, Option.toList_some, Option.toList_none, List.cons_append, List.nil_append, true_and, and_true, true_or, or_true, reduceIte, Nat.reduceEqDiff, if_true, if_false, go_push, go_21, go_pf, ty_0_0, ty_0_1, ty_0_2, ty_0_3, ty_0_4, ty_0_5, ty_0_6, ty_0_7, ty_1_0, ty_1_1, ty_1_2, ty_1_3, ty_2_0, ty_2_1, ty_2_2, ty_2_3, ty_2_4, ty_2_5, ty_2_6, ty_2_7, ty_3_0, ty_3_1, ty_3_2, ty_3_3, ty_3_4, ty_3_5, ty_3_6, ty_4_0, ty_4_1, ty_5_0, ty_5_1, ty_6_0, ty_6_1, ty_6_2, ty_6_3, ty_6_4, ty_6_5, ty_6_6, ty_7_0, ty_7_1, ty_7_2, ty_7_3, ty_7_4, ty_7_5, ty_7_6, ty_7_7, ty_7_8, ty_7_9, ty_7_10, ty_7_11, ty_7_12, ty_7_13, ty_7_14, ty_7_15, ty_7_16, ty_7_17, ty_7_18, ty_7_19, ty_7_20, ty_7_21, ty_7_22, ty_7_23, ty_7_24, ty_7_25, ty_7_26, ty_7_27, ty_7_28, ty_7_29, ty_7_30, ty_7_31, ty_7_32, ty_7_33, ty_7_34, ty_7_35, ty_7_36, ty_7_37, ty_7_38, ty_7_39, ty_7_40, fit_a, fit_i, h120, c120]
  unfold go
  refine hQ _ (fun i hi h0 => ?_) ?_
  case refine_2 => rw [va_up_ne _ _ (by decide), va_up_ne _ _ (by decide)]
  have hh : i = 1 ∨ i = 2 := by
    have h0' : ¬ i = 0 := h0
    omega
  rcases hh with e | e <;> subst e
  · rw [va_up_self]
    show _ = (.inl (5, fun k => if k = 0 then .ref (B + 2) else .int (cl_0.1 1 k)) : xo_C)
    congr 2
    funext q
    by_cases q0 : q = 0
    · subst q0; rfl
    · by_cases q1 : q = 1
      · subst q1; rfl
      · simp only [va_up, q0, q1, if_false]
        rw [df_5, if_neg q0]
        rfl
  · rw [va_up_ne _ _ (by decide), va_up_self]
    rfl
end IN1
