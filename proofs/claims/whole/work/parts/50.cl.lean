/-! THE CLASS's objects and rows as one state: ints by the cell's offset (63 cells) and the field or place; the words apart (printed by wip/gen/cl.py) -/
abbrev cl_S : Type := (Nat → Nat → Int32) × (Nat → Int64)
def cl_s (τ : cl_S) (j k : Nat) (v : Int32) : cl_S := (va_up τ.1 j (upd (τ.1 j) k v), τ.2)
def cl_ar (τ : cl_S) (j : Nat) (f : Nat → Int32) : cl_S := (va_up τ.1 j f, τ.2)
def cl_w (τ : cl_S) (k : Nat) (v : Int64) : cl_S := (τ.1, vp_updL τ.2 k v)
def cl_eo : List Nat := [35, 37, 40, 45, 47, 49, 51, 53, 55, 57, 59]
def cl_ea : List Nat := [36, 38, 41, 46, 48, 50, 52, 54, 56, 58, 60]
def cl_cell (B : Nat) (τ : cl_S) (j : Nat) : xo_C :=
  if j ∈ cl_eo then .inl (1, fun k => if k = 0 then .ref (B + (j + 1)) else .int (τ.1 j k))
  else if j ∈ cl_ea then .inr (.int, (120, .inl (τ.1 j)))
  else if j = 0 then .inl (6, fun k => if k < 7 then .ref (B + [1, 3, 34, 35, 37, 39, 61].getD k 0) else .null)
  else if j = 1 then .inl (5, fun k => if k = 0 then .ref (B + 2) else .int (τ.1 j k))
  else if j = 2 then .inr (.byte, (3000, .inl (τ.1 j)))
  else if j = 3 then .inl (0, fun k => if k < 6 then .ref (B + [4, 5, 6, 7, 8, 33].getD k 0) else .int (τ.1 j k))
  else if j = 4 ∨ j = 5 ∨ j = 6 then .inr (.int, (120, .inl (τ.1 j)))
  else if j = 7 ∨ j = 33 then .inr (.int, (24, .inl (τ.1 j)))
  else if j = 8 then .inr (.array .int, (24, .inr (.inr (.inr (.inr (fun i => if i < 24 then some (B + (9 + i)) else none))))))
  else if j = 34 then .inl (2, fun k => if k < 2 then .ref (B + [1, 3].getD k 0) else .int (τ.1 j k))
  else if j = 39 then .inl (3, fun k => if k < 5 then .ref (B + [3, 40, 42, 43, 44].getD k 0) else .int (τ.1 j k))
  else if j = 42 then .inr (.object "DilemmaProver$Equivalence", (4, .inr (.inr (.inr (.inr (fun i => if i < 4 then some (B + (45 + 4 * i)) else none))))))
  else if j = 43 then .inr (.object "DilemmaProver$Equivalence", (4, .inr (.inr (.inr (.inr (fun i => if i < 4 then some (B + (47 + 4 * i)) else none))))))
  else if j = 44 then .inr (.int, (4, .inl (τ.1 j)))
  else if j = 61 then .inl (4, fun k => if k < 2 then .ref (B + [3, 62].getD k 0) else .null)
  else if j = 62 then .inr (.long, (120, .inr (.inl τ.2)))
  else .inr (.int, (6, .inl (τ.1 j)))
def cl_put (B : Nat) (τ : cl_S) (g : xo_G) : xo_G := (fun a => if B ≤ a ∧ a < B + 63 then some (cl_cell B τ (a - B)) else g.1 a, g.2)
theorem cl_at (B : Nat) (τ : cl_S) (g : xo_G) {j : Nat} (h : j < 63) : (cl_put B τ g).1 (B + j) = some (cl_cell B τ j) := by
  show (if B ≤ B + j ∧ B + j < B + 63 then some (cl_cell B τ (B + j - B)) else g.1 (B + j)) = _
  rw [if_pos (by omega), Nat.add_sub_cancel_left]
theorem cl_cell_ne {B : Nat} {τ τ2 : cl_S} {i : Nat} (h1 : τ2.1 i = τ.1 i) (h2 : i = 62 → τ2.2 = τ.2) : cl_cell B τ2 i = cl_cell B τ i := by
  by_cases h : i = 62
  · unfold cl_cell
    rw [h1, h2 h]
  · unfold cl_cell
    rw [h1]
    simp only [if_neg h]
theorem cl_set (B : Nat) (τ τ2 : cl_S) (g : xo_G) {j : Nat} {c : xo_C} (h : j < 63) (hc : c = cl_cell B τ2 j) (h1 : ∀ i, i ≠ j → τ2.1 i = τ.1 i) (h2 : ¬ j = 62 → τ2.2 = τ.2) : xo_set (cl_put B τ g) (B + j) c = cl_put B τ2 g := by
  refine Prod.ext (funext fun a => ?_) rfl
  show va_up (cl_put B τ g).1 (B + j) (some c) a = (cl_put B τ2 g).1 a
  by_cases e : a = B + j
  · subst e
    rw [va_up_self, cl_at B τ2 g h, hc]
  · rw [va_up_ne _ _ e]
    show (if B ≤ a ∧ a < B + 63 then some (cl_cell B τ (a - B)) else g.1 a) = (if B ≤ a ∧ a < B + 63 then some (cl_cell B τ2 (a - B)) else g.1 a)
    split
    · rw [cl_cell_ne (h1 (a - B) (by omega)) (fun z => h2 (by omega))]
    · rfl
theorem cl_s_1 (τ : cl_S) (j k i : Nat) (v : Int32) : (cl_s τ j k v).1 i = if i = j then upd (τ.1 j) k v else τ.1 i := rfl
theorem cl_s_2 (τ : cl_S) (j k : Nat) (v : Int32) : (cl_s τ j k v).2 = τ.2 := rfl
theorem cl_ar_1 (τ : cl_S) (j i : Nat) (f : Nat → Int32) : (cl_ar τ j f).1 i = if i = j then f else τ.1 i := rfl
theorem cl_ar_2 (τ : cl_S) (j : Nat) (f : Nat → Int32) : (cl_ar τ j f).2 = τ.2 := rfl
theorem cl_w_1 (τ : cl_S) (k : Nat) (v : Int64) : (cl_w τ k v).1 = τ.1 := rfl
theorem cl_w_2 (τ : cl_S) (k : Nat) (v : Int64) : (cl_w τ k v).2 = vp_updL τ.2 k v := rfl
theorem cl_eo_lt {j : Nat} (h : j ∈ cl_eo) : j < 60 ∧ j + 1 ∈ cl_ea ∧ ¬ j + 1 ∈ cl_eo ∧ 35 ≤ j := (by decide : ∀ j ∈ cl_eo, j < 60 ∧ j + 1 ∈ cl_ea ∧ ¬ j + 1 ∈ cl_eo ∧ 35 ≤ j) j h
theorem cl_cell_eo {B : Nat} {τ : cl_S} {j : Nat} (h : j ∈ cl_eo) : cl_cell B τ j = .inl (1, fun k => if k = 0 then .ref (B + (j + 1)) else .int (τ.1 j k)) := if_pos h
theorem cl_cell_ea {B : Nat} {τ : cl_S} {j : Nat} (h : j ∈ cl_eo) : cl_cell B τ (j + 1) = .inr (.int, (120, .inl (τ.1 (j + 1)))) := by
  unfold cl_cell
  rw [if_neg (cl_eo_lt h).2.2.1, if_pos (cl_eo_lt h).2.1]
section CL
variable {X : xo_X} {B : Nat} {τ : cl_S} {g : xo_G}
theorem cl_gf {j ci k : Nat} {F : Nat → Value} {K : Value → Prop} (h : j < 63) (hc : cl_cell B τ j = .inl (ci, F)) : ev_gf (cl_put B τ g) (B + j) ci k K ↔ K (F k) := by
  unfold ev_gf
  rw [cl_at B τ g h, hc]
  simp
theorem cl_rc {j ci : Nat} {F : Nat → Value} {P : Prop} (h : j < 63) (hc : cl_cell B τ j = .inl (ci, F)) : ev_rc X (cl_put B τ g) (B + j) ci P ↔ P := by
  unfold ev_rc xo_ob
  rw [cl_at B τ g h, hc]
  simp
theorem cl_pf {j ci k : Nat} {v : Int32} {F : Nat → Value} {K : xo_G → Prop} (h : j < 63) (hc : cl_cell B τ j = .inl (ci, F)) (ht : xp_ty ci k = .int) (hF : .inl (ci, va_up F k (.int v)) = cl_cell B (cl_s τ j k v) j) : ev_pf (cl_put B τ g) (B + j) ci k (.int v) True K ↔ K (cl_put B (cl_s τ j k v) g) := by
  unfold ev_pf
  rw [cl_at B τ g h, hc]
  simp only [ht, xo_fit, true_and, and_self]
  rw [cl_set B τ (cl_s τ j k v) g h hF (fun i hi => by rw [cl_s_1, if_neg hi]) (fun _ => rfl)]
theorem cl_pz {j ci k : Nat} {v : Int32} {F : Nat → Value} {K : xo_G → Prop} (h : j < 63) (hc : cl_cell B τ j = .inl (ci, F)) (ht : xp_ty ci k = .boolean) (hF : .inl (ci, va_up F k (.int v)) = cl_cell B (cl_s τ j k v) j) : ev_pf (cl_put B τ g) (B + j) ci k (.int v) True K ↔ (v = 0 ∨ v = 1) ∧ K (cl_put B (cl_s τ j k v) g) := by
  unfold ev_pf
  rw [cl_at B τ g h, hc]
  simp only [ht, xo_fit, true_and, and_true, Bool.or_eq_true, beq_iff_eq]
  rw [cl_set B τ (cl_s τ j k v) g h hF (fun i hi => by rw [cl_s_1, if_neg hi]) (fun _ => rfl)]
theorem cl_ia {j n : Nat} {f : Nat → Int32} {i : Int32} {K : Int32 → Prop} (h : j < 63) (hc : cl_cell B τ j = .inr (.int, (n, .inl f))) : ev_ia X (cl_put B τ g) (B + j) i K ↔ xo_out i n = false ∧ K (f i.toNatClampNeg) := by
  unfold ev_ia xo_ri
  rw [cl_at B τ g h, hc]
theorem cl_al {j n : Nat} {f : Nat → Int32} {K : Int32 → Prop} (h : j < 63) (hc : cl_cell B τ j = .inr (.int, (n, .inl f))) : ev_al X (cl_put B τ g) (B + j) K ↔ K (Int32.ofNat n) := by
  unfold ev_al xo_al
  rw [cl_at B τ g h, hc]
theorem cl_ba {j n : Nat} {f : Nat → Int32} {i : Int32} {K : Int32 → Prop} (h : j < 63) (hc : cl_cell B τ j = .inr (.byte, (n, .inl f))) : ev_ba X (cl_put B τ g) (B + j) i K ↔ xo_out i n = false ∧ K (f i.toNatClampNeg) := by
  unfold ev_ba xo_rb
  rw [cl_at B τ g h, hc]
theorem cl_la {j n : Nat} {f : Nat → Int64} {i : Int32} {K : Int64 → Prop} (h : j < 63) (hc : cl_cell B τ j = .inr (.long, (n, .inr (.inl f)))) : ev_la X (cl_put B τ g) (B + j) i K ↔ xo_out i n = false ∧ K (f i.toNatClampNeg) := by
  unfold ev_la xo_rl
  rw [cl_at B τ g h, hc]
theorem cl_is {j n : Nat} {f : Nat → Int32} {i x : Int32} {K : xo_G → Prop} (h : j < 63) (h62 : ¬ j = 62) (hc : cl_cell B τ j = .inr (.int, (n, .inl f))) (hF : .inr (.int, (n, .inl (upd f i.toNatClampNeg x))) = cl_cell B (cl_s τ j i.toNatClampNeg x) j) : ev_is (cl_put B τ g) (B + j) i x K ↔ xo_out i n = false ∧ K (cl_put B (cl_s τ j i.toNatClampNeg x) g) := by
  unfold ev_is
  rw [cl_at B τ g h, hc]
  dsimp only
  rw [cl_set B τ (cl_s τ j i.toNatClampNeg x) g h hF (fun i hi => by rw [cl_s_1, if_neg hi]) (fun _ => rfl)]
theorem cl_bs {j n : Nat} {f : Nat → Int32} {i x : Int32} {K : xo_G → Prop} (h : j < 63) (hc : cl_cell B τ j = .inr (.byte, (n, .inl f))) (hF : .inr (.byte, (n, .inl (upd f i.toNatClampNeg (vp_nar .byte x)))) = cl_cell B (cl_s τ j i.toNatClampNeg (vp_nar .byte x)) j) : ev_bs (cl_put B τ g) (B + j) i x K ↔ xo_out i n = false ∧ K (cl_put B (cl_s τ j i.toNatClampNeg (vp_nar .byte x)) g) := by
  unfold ev_bs
  rw [cl_at B τ g h, hc]
  dsimp only
  rw [cl_set B τ (cl_s τ j i.toNatClampNeg (vp_nar .byte x)) g h hF (fun i hi => by rw [cl_s_1, if_neg hi]) (fun _ => rfl)]
theorem cl_ls {i : Int32} {x : Int64} {K : xo_G → Prop} : ev_lst (cl_put B τ g) (B + 62) i x K ↔ xo_out i 120 = false ∧ K (cl_put B (cl_w τ i.toNatClampNeg x) g) := by
  unfold ev_lst
  rw [cl_at B τ g (j := 62) (by decide)]
  show (xo_out i 120 = false ∧ K (xo_set (cl_put B τ g) (B + 62) (.inr (.long, (120, .inr (.inl (vp_updL τ.2 i.toNatClampNeg x))))))) ↔ _
  rw [cl_set B τ (cl_w τ i.toNatClampNeg x) g (j := 62) (c := .inr (.long, (120, .inr (.inl (vp_updL τ.2 i.toNatClampNeg x))))) (by decide) rfl (fun i hi => rfl) (fun z => absurd rfl z)]
theorem cl_qa {j n : Nat} {f : Nat → Option Nat} {i : Int32} {K : Value → Prop} (h : j < 63) (hc : cl_cell B τ j = .inr (.array .int, (n, .inr (.inr (.inr (.inr f))))) ∨ cl_cell B τ j = .inr (.object "DilemmaProver$Equivalence", (n, .inr (.inr (.inr (.inr f)))))) : ev_qa (cl_put B τ g) (B + j) i K ↔ xo_out i n = false ∧ K (va_rf (f i.toNatClampNeg)) := by
  unfold ev_qa xo_rq
  rw [cl_at B τ g h]
  rcases hc with hc | hc
  · rw [hc]
  · rw [hc]
    simp
theorem cl_up_Te {k : Nat} {v : Int32} (h : ¬ (k = 0)) : (.inl (5, va_up (fun k => if k = 0 then .ref (B + 2) else .int (τ.1 1 k)) k (.int v)) : xo_C) = cl_cell B (cl_s τ 1 k v) 1 := by
  show _ = (.inl (5, fun k' => if k' = 0 then .ref (B + 2) else .int ((cl_s τ 1 k v).1 1 k')) : xo_C)
  congr 2
  funext k'
  by_cases e : k' = k
  · subst e
    rw [va_up_self, if_neg h, cl_s_1, if_pos rfl, pk_us]
  · rw [va_up_ne _ _ e, cl_s_1, if_pos rfl, pk_un e]
theorem cl_up_Ci {k : Nat} {v : Int32} (h : ¬ (k < 6)) : (.inl (0, va_up (fun k => if k < 6 then .ref (B + [4, 5, 6, 7, 8, 33].getD k 0) else .int (τ.1 3 k)) k (.int v)) : xo_C) = cl_cell B (cl_s τ 3 k v) 3 := by
  show _ = (.inl (0, fun k' => if k' < 6 then .ref (B + [4, 5, 6, 7, 8, 33].getD k' 0) else .int ((cl_s τ 3 k v).1 3 k')) : xo_C)
  congr 2
  funext k'
  by_cases e : k' = k
  · subst e
    rw [va_up_self, if_neg h, cl_s_1, if_pos rfl, pk_us]
  · rw [va_up_ne _ _ e, cl_s_1, if_pos rfl, pk_un e]
theorem cl_up_Re {k : Nat} {v : Int32} (h : ¬ (k < 2)) : (.inl (2, va_up (fun k => if k < 2 then .ref (B + [1, 3].getD k 0) else .int (τ.1 34 k)) k (.int v)) : xo_C) = cl_cell B (cl_s τ 34 k v) 34 := by
  show _ = (.inl (2, fun k' => if k' < 2 then .ref (B + [1, 3].getD k' 0) else .int ((cl_s τ 34 k v).1 34 k')) : xo_C)
  congr 2
  funext k'
  by_cases e : k' = k
  · subst e
    rw [va_up_self, if_neg h, cl_s_1, if_pos rfl, pk_us]
  · rw [va_up_ne _ _ e, cl_s_1, if_pos rfl, pk_un e]
theorem cl_up_Sa {k : Nat} {v : Int32} (h : ¬ (k < 5)) : (.inl (3, va_up (fun k => if k < 5 then .ref (B + [3, 40, 42, 43, 44].getD k 0) else .int (τ.1 39 k)) k (.int v)) : xo_C) = cl_cell B (cl_s τ 39 k v) 39 := by
  show _ = (.inl (3, fun k' => if k' < 5 then .ref (B + [3, 40, 42, 43, 44].getD k' 0) else .int ((cl_s τ 39 k v).1 39 k')) : xo_C)
  congr 2
  funext k'
  by_cases e : k' = k
  · subst e
    rw [va_up_self, if_neg h, cl_s_1, if_pos rfl, pk_us]
  · rw [va_up_ne _ _ e, cl_s_1, if_pos rfl, pk_un e]
theorem cg_Dp_rc {P : Prop} : ev_rc X (cl_put B τ g) B 6 P ↔ P := cl_rc (j := 0) (by decide) rfl
theorem cg_Dp_text {K : Value → Prop} : ev_gf (cl_put B τ g) B 6 0 K ↔ K (.ref (B + 1)) := cl_gf (j := 0) (by decide) rfl
theorem cg_Dp_circuit {K : Value → Prop} : ev_gf (cl_put B τ g) B 6 1 K ↔ K (.ref (B + 3)) := cl_gf (j := 0) (by decide) rfl
theorem cg_Dp_reader {K : Value → Prop} : ev_gf (cl_put B τ g) B 6 2 K ↔ K (.ref (B + 34)) := cl_gf (j := 0) (by decide) rfl
theorem cg_Dp_current {K : Value → Prop} : ev_gf (cl_put B τ g) B 6 3 K ↔ K (.ref (B + 35)) := cl_gf (j := 0) (by decide) rfl
theorem cg_Dp_working {K : Value → Prop} : ev_gf (cl_put B τ g) B 6 4 K ↔ K (.ref (B + 37)) := cl_gf (j := 0) (by decide) rfl
theorem cg_Dp_saturator {K : Value → Prop} : ev_gf (cl_put B τ g) B 6 5 K ↔ K (.ref (B + 39)) := cl_gf (j := 0) (by decide) rfl
theorem cg_Dp_table {K : Value → Prop} : ev_gf (cl_put B τ g) B 6 6 K ↔ K (.ref (B + 61)) := cl_gf (j := 0) (by decide) rfl
theorem cg_Te_rc {P : Prop} : ev_rc X (cl_put B τ g) (B + 1) 5 P ↔ P := cl_rc (j := 1) (by decide) rfl
theorem cg_Te_bytes {K : Value → Prop} : ev_gf (cl_put B τ g) (B + 1) 5 0 K ↔ K (.ref (B + 2)) := cl_gf (j := 1) (by decide) rfl
theorem cg_Te_length {K : Value → Prop} : ev_gf (cl_put B τ g) (B + 1) 5 1 K ↔ K (.int (τ.1 1 1)) := cl_gf (j := 1) (by decide) rfl
theorem cp_Te_length {v : Int32} {K : xo_G → Prop} : ev_pf (cl_put B τ g) (B + 1) 5 1 (.int v) True K ↔ K (cl_put B (cl_s τ 1 1 v) g) := cl_pf (j := 1) (by decide) rfl (by decide +kernel) (cl_up_Te (by decide))
theorem cg_Ci_rc {P : Prop} : ev_rc X (cl_put B τ g) (B + 3) 0 P ↔ P := cl_rc (j := 3) (by decide) rfl
theorem cg_Ci_kinds {K : Value → Prop} : ev_gf (cl_put B τ g) (B + 3) 0 0 K ↔ K (.ref (B + 4)) := cl_gf (j := 3) (by decide) rfl
theorem cg_Ci_firsts {K : Value → Prop} : ev_gf (cl_put B τ g) (B + 3) 0 1 K ↔ K (.ref (B + 5)) := cl_gf (j := 3) (by decide) rfl
theorem cg_Ci_seconds {K : Value → Prop} : ev_gf (cl_put B τ g) (B + 3) 0 2 K ↔ K (.ref (B + 6)) := cl_gf (j := 3) (by decide) rfl
theorem cg_Ci_inputVariables {K : Value → Prop} : ev_gf (cl_put B τ g) (B + 3) 0 3 K ↔ K (.ref (B + 7)) := cl_gf (j := 3) (by decide) rfl
theorem cg_Ci_names {K : Value → Prop} : ev_gf (cl_put B τ g) (B + 3) 0 4 K ↔ K (.ref (B + 8)) := cl_gf (j := 3) (by decide) rfl
theorem cg_Ci_nameLengths {K : Value → Prop} : ev_gf (cl_put B τ g) (B + 3) 0 5 K ↔ K (.ref (B + 33)) := cl_gf (j := 3) (by decide) rfl
theorem cg_Ci_size {K : Value → Prop} : ev_gf (cl_put B τ g) (B + 3) 0 6 K ↔ K (.int (τ.1 3 6)) := cl_gf (j := 3) (by decide) rfl
theorem cp_Ci_size {v : Int32} {K : xo_G → Prop} : ev_pf (cl_put B τ g) (B + 3) 0 6 (.int v) True K ↔ K (cl_put B (cl_s τ 3 6 v) g) := cl_pf (j := 3) (by decide) rfl (by decide +kernel) (cl_up_Ci (by decide))
theorem cg_Ci_inputs {K : Value → Prop} : ev_gf (cl_put B τ g) (B + 3) 0 7 K ↔ K (.int (τ.1 3 7)) := cl_gf (j := 3) (by decide) rfl
theorem cp_Ci_inputs {v : Int32} {K : xo_G → Prop} : ev_pf (cl_put B τ g) (B + 3) 0 7 (.int v) True K ↔ K (cl_put B (cl_s τ 3 7 v) g) := cl_pf (j := 3) (by decide) rfl (by decide +kernel) (cl_up_Ci (by decide))
theorem cg_Re_rc {P : Prop} : ev_rc X (cl_put B τ g) (B + 34) 2 P ↔ P := cl_rc (j := 34) (by decide) rfl
theorem cg_Re_text {K : Value → Prop} : ev_gf (cl_put B τ g) (B + 34) 2 0 K ↔ K (.ref (B + 1)) := cl_gf (j := 34) (by decide) rfl
theorem cg_Re_circuit {K : Value → Prop} : ev_gf (cl_put B τ g) (B + 34) 2 1 K ↔ K (.ref (B + 3)) := cl_gf (j := 34) (by decide) rfl
theorem cg_Re_token {K : Value → Prop} : ev_gf (cl_put B τ g) (B + 34) 2 2 K ↔ K (.int (τ.1 34 2)) := cl_gf (j := 34) (by decide) rfl
theorem cp_Re_token {v : Int32} {K : xo_G → Prop} : ev_pf (cl_put B τ g) (B + 34) 2 2 (.int v) True K ↔ K (cl_put B (cl_s τ 34 2 v) g) := cl_pf (j := 34) (by decide) rfl (by decide +kernel) (cl_up_Re (by decide))
theorem cg_Re_start {K : Value → Prop} : ev_gf (cl_put B τ g) (B + 34) 2 3 K ↔ K (.int (τ.1 34 3)) := cl_gf (j := 34) (by decide) rfl
theorem cp_Re_start {v : Int32} {K : xo_G → Prop} : ev_pf (cl_put B τ g) (B + 34) 2 3 (.int v) True K ↔ K (cl_put B (cl_s τ 34 3 v) g) := cl_pf (j := 34) (by decide) rfl (by decide +kernel) (cl_up_Re (by decide))
theorem cg_Re_next {K : Value → Prop} : ev_gf (cl_put B τ g) (B + 34) 2 4 K ↔ K (.int (τ.1 34 4)) := cl_gf (j := 34) (by decide) rfl
theorem cp_Re_next {v : Int32} {K : xo_G → Prop} : ev_pf (cl_put B τ g) (B + 34) 2 4 (.int v) True K ↔ K (cl_put B (cl_s τ 34 4 v) g) := cl_pf (j := 34) (by decide) rfl (by decide +kernel) (cl_up_Re (by decide))
theorem cg_Re_open {K : Value → Prop} : ev_gf (cl_put B τ g) (B + 34) 2 5 K ↔ K (.int (τ.1 34 5)) := cl_gf (j := 34) (by decide) rfl
theorem cp_Re_open {v : Int32} {K : xo_G → Prop} : ev_pf (cl_put B τ g) (B + 34) 2 5 (.int v) True K ↔ K (cl_put B (cl_s τ 34 5 v) g) := cl_pf (j := 34) (by decide) rfl (by decide +kernel) (cl_up_Re (by decide))
theorem cg_Re_fault {K : Value → Prop} : ev_gf (cl_put B τ g) (B + 34) 2 6 K ↔ K (.int (τ.1 34 6)) := cl_gf (j := 34) (by decide) rfl
theorem cp_Re_fault {v : Int32} {K : xo_G → Prop} : ev_pf (cl_put B τ g) (B + 34) 2 6 (.int v) True K ↔ K (cl_put B (cl_s τ 34 6 v) g) := cl_pf (j := 34) (by decide) rfl (by decide +kernel) (cl_up_Re (by decide))
theorem cg_Re_faultPlace {K : Value → Prop} : ev_gf (cl_put B τ g) (B + 34) 2 7 K ↔ K (.int (τ.1 34 7)) := cl_gf (j := 34) (by decide) rfl
theorem cp_Re_faultPlace {v : Int32} {K : xo_G → Prop} : ev_pf (cl_put B τ g) (B + 34) 2 7 (.int v) True K ↔ K (cl_put B (cl_s τ 34 7 v) g) := cl_pf (j := 34) (by decide) rfl (by decide +kernel) (cl_up_Re (by decide))
theorem cg_Sa_rc {P : Prop} : ev_rc X (cl_put B τ g) (B + 39) 3 P ↔ P := cl_rc (j := 39) (by decide) rfl
theorem cg_Sa_circuit {K : Value → Prop} : ev_gf (cl_put B τ g) (B + 39) 3 0 K ↔ K (.ref (B + 3)) := cl_gf (j := 39) (by decide) rfl
theorem cg_Sa_before {K : Value → Prop} : ev_gf (cl_put B τ g) (B + 39) 3 1 K ↔ K (.ref (B + 40)) := cl_gf (j := 39) (by decide) rfl
theorem cg_Sa_trueBranches {K : Value → Prop} : ev_gf (cl_put B τ g) (B + 39) 3 2 K ↔ K (.ref (B + 42)) := cl_gf (j := 39) (by decide) rfl
theorem cg_Sa_falseBranches {K : Value → Prop} : ev_gf (cl_put B τ g) (B + 39) 3 3 K ↔ K (.ref (B + 43)) := cl_gf (j := 39) (by decide) rfl
theorem cg_Sa_tallies {K : Value → Prop} : ev_gf (cl_put B τ g) (B + 39) 3 4 K ↔ K (.ref (B + 44)) := cl_gf (j := 39) (by decide) rfl
theorem cg_Sa_mostSteps {K : Value → Prop} : ev_gf (cl_put B τ g) (B + 39) 3 5 K ↔ K (.int (τ.1 39 5)) := cl_gf (j := 39) (by decide) rfl
theorem cp_Sa_mostSteps {v : Int32} {K : xo_G → Prop} : ev_pf (cl_put B τ g) (B + 39) 3 5 (.int v) True K ↔ K (cl_put B (cl_s τ 39 5 v) g) := cl_pf (j := 39) (by decide) rfl (by decide +kernel) (cl_up_Sa (by decide))
theorem cg_Sa_spent {K : Value → Prop} : ev_gf (cl_put B τ g) (B + 39) 3 6 K ↔ K (.int (τ.1 39 6)) := cl_gf (j := 39) (by decide) rfl
theorem cp_Sa_spent {v : Int32} {K : xo_G → Prop} : ev_pf (cl_put B τ g) (B + 39) 3 6 (.int v) True K ↔ (v = 0 ∨ v = 1) ∧ K (cl_put B (cl_s τ 39 6 v) g) := cl_pz (j := 39) (by decide) rfl (by decide +kernel) (cl_up_Sa (by decide))
theorem cg_Ta_rc {P : Prop} : ev_rc X (cl_put B τ g) (B + 61) 4 P ↔ P := cl_rc (j := 61) (by decide) rfl
theorem cg_Ta_circuit {K : Value → Prop} : ev_gf (cl_put B τ g) (B + 61) 4 0 K ↔ K (.ref (B + 3)) := cl_gf (j := 61) (by decide) rfl
theorem cg_Ta_words {K : Value → Prop} : ev_gf (cl_put B τ g) (B + 61) 4 1 K ↔ K (.ref (B + 62)) := cl_gf (j := 61) (by decide) rfl
theorem cr_kinds {i : Int32} {K : Int32 → Prop} : ev_ia X (cl_put B τ g) (B + 4) i K ↔ xo_out i 120 = false ∧ K (τ.1 4 i.toNatClampNeg) := cl_ia (j := 4) (by decide) rfl
theorem cw_kinds {i x : Int32} {K : xo_G → Prop} : ev_is (cl_put B τ g) (B + 4) i x K ↔ xo_out i 120 = false ∧ K (cl_put B (cl_s τ 4 i.toNatClampNeg x) g) := cl_is (j := 4) (by decide) (by decide) rfl rfl
theorem cr_firsts {i : Int32} {K : Int32 → Prop} : ev_ia X (cl_put B τ g) (B + 5) i K ↔ xo_out i 120 = false ∧ K (τ.1 5 i.toNatClampNeg) := cl_ia (j := 5) (by decide) rfl
theorem cw_firsts {i x : Int32} {K : xo_G → Prop} : ev_is (cl_put B τ g) (B + 5) i x K ↔ xo_out i 120 = false ∧ K (cl_put B (cl_s τ 5 i.toNatClampNeg x) g) := cl_is (j := 5) (by decide) (by decide) rfl rfl
theorem cr_seconds {i : Int32} {K : Int32 → Prop} : ev_ia X (cl_put B τ g) (B + 6) i K ↔ xo_out i 120 = false ∧ K (τ.1 6 i.toNatClampNeg) := cl_ia (j := 6) (by decide) rfl
theorem cw_seconds {i x : Int32} {K : xo_G → Prop} : ev_is (cl_put B τ g) (B + 6) i x K ↔ xo_out i 120 = false ∧ K (cl_put B (cl_s τ 6 i.toNatClampNeg x) g) := cl_is (j := 6) (by decide) (by decide) rfl rfl
theorem cr_inputVariables {i : Int32} {K : Int32 → Prop} : ev_ia X (cl_put B τ g) (B + 7) i K ↔ xo_out i 24 = false ∧ K (τ.1 7 i.toNatClampNeg) := cl_ia (j := 7) (by decide) rfl
theorem cw_inputVariables {i x : Int32} {K : xo_G → Prop} : ev_is (cl_put B τ g) (B + 7) i x K ↔ xo_out i 24 = false ∧ K (cl_put B (cl_s τ 7 i.toNatClampNeg x) g) := cl_is (j := 7) (by decide) (by decide) rfl rfl
theorem cr_nameLengths {i : Int32} {K : Int32 → Prop} : ev_ia X (cl_put B τ g) (B + 33) i K ↔ xo_out i 24 = false ∧ K (τ.1 33 i.toNatClampNeg) := cl_ia (j := 33) (by decide) rfl
theorem cw_nameLengths {i x : Int32} {K : xo_G → Prop} : ev_is (cl_put B τ g) (B + 33) i x K ↔ xo_out i 24 = false ∧ K (cl_put B (cl_s τ 33 i.toNatClampNeg x) g) := cl_is (j := 33) (by decide) (by decide) rfl rfl
theorem cr_tallies {i : Int32} {K : Int32 → Prop} : ev_ia X (cl_put B τ g) (B + 44) i K ↔ xo_out i 4 = false ∧ K (τ.1 44 i.toNatClampNeg) := cl_ia (j := 44) (by decide) rfl
theorem cw_tallies {i x : Int32} {K : xo_G → Prop} : ev_is (cl_put B τ g) (B + 44) i x K ↔ xo_out i 4 = false ∧ K (cl_put B (cl_s τ 44 i.toNatClampNeg x) g) := cl_is (j := 44) (by decide) (by decide) rfl rfl
theorem cr_bytes {i : Int32} {K : Int32 → Prop} : ev_ba X (cl_put B τ g) (B + 2) i K ↔ xo_out i 3000 = false ∧ K (τ.1 2 i.toNatClampNeg) := cl_ba (j := 2) (by decide) rfl
theorem cw_bytes {i x : Int32} {K : xo_G → Prop} : ev_bs (cl_put B τ g) (B + 2) i x K ↔ xo_out i 3000 = false ∧ K (cl_put B (cl_s τ 2 i.toNatClampNeg (vp_nar .byte x)) g) := cl_bs (j := 2) (by decide) rfl rfl
theorem cr_words {i : Int32} {K : Int64 → Prop} : ev_la X (cl_put B τ g) (B + 62) i K ↔ xo_out i 120 = false ∧ K (τ.2 i.toNatClampNeg) := cl_la (j := 62) (by decide) rfl
theorem cw_words {i : Int32} {x : Int64} {K : xo_G → Prop} : ev_lst (cl_put B τ g) (B + 62) i x K ↔ xo_out i 120 = false ∧ K (cl_put B (cl_w τ i.toNatClampNeg x) g) := cl_ls
theorem cl_tallies {K : Int32 → Prop} : ev_al X (cl_put B τ g) (B + 44) K ↔ K 4 := cl_al (j := 44) (by decide) rfl
theorem cr_names {i : Nat} {K : Value → Prop} (h : i < 24) : ev_qa (cl_put B τ g) (B + 8) (nI i) K ↔ K (.ref (B + (9 + i))) := by
  rw [cl_qa (j := 8) (by decide) (Or.inl rfl), xo_in h (by decide), nI_clamp (by omega)]
  simp [h, va_rf]
theorem cr_trueB {i : Nat} {K : Value → Prop} (h : i < 4) : ev_qa (cl_put B τ g) (B + 42) (nI i) K ↔ K (.ref (B + (45 + 4 * i))) := by
  rw [cl_qa (j := 42) (by decide) (Or.inr rfl), xo_in h (by decide), nI_clamp (by omega)]
  simp [h, va_rf]
theorem cr_falseB {i : Nat} {K : Value → Prop} (h : i < 4) : ev_qa (cl_put B τ g) (B + 43) (nI i) K ↔ K (.ref (B + (47 + 4 * i))) := by
  rw [cl_qa (j := 43) (by decide) (Or.inr rfl), xo_in h (by decide), nI_clamp (by omega)]
  simp [h, va_rf]
theorem cl_cell_nm {i : Nat} (h : i < 24) : cl_cell B τ (9 + i) = .inr (.int, (6, .inl (τ.1 (9 + i)))) := by
  have h1 : ¬ 9 + i ∈ cl_eo := fun z => by have := (cl_eo_lt z).2.2.2; omega
  have h2 : ¬ 9 + i ∈ cl_ea := fun z => by
    have : 36 ≤ 9 + i := (by decide : ∀ j ∈ cl_ea, 36 ≤ j) _ z
    omega
  unfold cl_cell
  rw [if_neg h1, if_neg h2]
  simp only [show ¬ 9 + i = 0 by omega, show ¬ 9 + i = 1 by omega, show ¬ 9 + i = 2 by omega, show ¬ 9 + i = 3 by omega, show ¬ 9 + i = 4 by omega, show ¬ 9 + i = 5 by omega, show ¬ 9 + i = 6 by omega, show ¬ 9 + i = 7 by omega, show ¬ 9 + i = 8 by omega, show ¬ 9 + i = 33 by omega, show ¬ 9 + i = 34 by omega, show ¬ 9 + i = 39 by omega, show ¬ 9 + i = 42 by omega, show ¬ 9 + i = 43 by omega, show ¬ 9 + i = 44 by omega, show ¬ 9 + i = 61 by omega, show ¬ 9 + i = 62 by omega, or_self, if_false]
theorem cr_name {k : Nat} {i : Int32} {K : Int32 → Prop} (h : k < 24) : ev_ia X (cl_put B τ g) (B + (9 + k)) i K ↔ xo_out i 6 = false ∧ K (τ.1 (9 + k) i.toNatClampNeg) := cl_ia (j := 9 + k) (by omega) (cl_cell_nm h)
theorem cw_name {k : Nat} {i x : Int32} {K : xo_G → Prop} (h : k < 24) : ev_is (cl_put B τ g) (B + (9 + k)) i x K ↔ xo_out i 6 = false ∧ K (cl_put B (cl_s τ (9 + k) i.toNatClampNeg x) g) := cl_is (j := 9 + k) (by omega) (by omega) (cl_cell_nm h) (by rw [cl_cell_nm h, cl_s_1, if_pos rfl])
theorem cq_rc {j : Nat} {P : Prop} (h : j ∈ cl_eo) : ev_rc X (cl_put B τ g) (B + j) 1 P ↔ P := cl_rc (by have := (cl_eo_lt h).1; omega) (cl_cell_eo h)
theorem cq_st {j : Nat} {K : Value → Prop} (h : j ∈ cl_eo) : ev_gf (cl_put B τ g) (B + j) 1 0 K ↔ K (.ref (B + (j + 1))) := cl_gf (by have := (cl_eo_lt h).1; omega) (cl_cell_eo h)
theorem cq_size {j : Nat} {K : Value → Prop} (h : j ∈ cl_eo) : ev_gf (cl_put B τ g) (B + j) 1 1 K ↔ K (.int (τ.1 j 1)) := cl_gf (by have := (cl_eo_lt h).1; omega) (cl_cell_eo h)
theorem cq_classes {j : Nat} {K : Value → Prop} (h : j ∈ cl_eo) : ev_gf (cl_put B τ g) (B + j) 1 2 K ↔ K (.int (τ.1 j 2)) := cl_gf (by have := (cl_eo_lt h).1; omega) (cl_cell_eo h)
theorem cq_contradiction {j : Nat} {K : Value → Prop} (h : j ∈ cl_eo) : ev_gf (cl_put B τ g) (B + j) 1 3 K ↔ K (.int (τ.1 j 3)) := cl_gf (by have := (cl_eo_lt h).1; omega) (cl_cell_eo h)
theorem cl_up_Eq {j k : Nat} {v : Int32} (hj : j ∈ cl_eo) (h : ¬ k = 0) : (.inl (1, va_up (fun k => if k = 0 then .ref (B + (j + 1)) else .int (τ.1 j k)) k (.int v)) : xo_C) = cl_cell B (cl_s τ j k v) j := by
  rw [cl_cell_eo hj]
  congr 2
  funext k'
  by_cases e : k' = k
  · subst e
    rw [va_up_self, if_neg h, cl_s_1, if_pos rfl, pk_us]
  · rw [va_up_ne _ _ e, cl_s_1, if_pos rfl, pk_un e]
theorem cqp_size {j : Nat} {v : Int32} {K : xo_G → Prop} (h : j ∈ cl_eo) : ev_pf (cl_put B τ g) (B + j) 1 1 (.int v) True K ↔ K (cl_put B (cl_s τ j 1 v) g) := cl_pf (by have := (cl_eo_lt h).1; omega) (cl_cell_eo h) (by decide +kernel) (cl_up_Eq h (by decide))
theorem cqp_classes {j : Nat} {v : Int32} {K : xo_G → Prop} (h : j ∈ cl_eo) : ev_pf (cl_put B τ g) (B + j) 1 2 (.int v) True K ↔ K (cl_put B (cl_s τ j 2 v) g) := cl_pf (by have := (cl_eo_lt h).1; omega) (cl_cell_eo h) (by decide +kernel) (cl_up_Eq h (by decide))
theorem cqp_contradiction {j : Nat} {v : Int32} {K : xo_G → Prop} (h : j ∈ cl_eo) : ev_pf (cl_put B τ g) (B + j) 1 3 (.int v) True K ↔ (v = 0 ∨ v = 1) ∧ K (cl_put B (cl_s τ j 3 v) g) := cl_pz (by have := (cl_eo_lt h).1; omega) (cl_cell_eo h) (by decide +kernel) (cl_up_Eq h (by decide))
theorem cq_rd {j : Nat} {i : Int32} {K : Int32 → Prop} (h : j ∈ cl_eo) : ev_ia X (cl_put B τ g) (B + (j + 1)) i K ↔ xo_out i 120 = false ∧ K (τ.1 (j + 1) i.toNatClampNeg) := cl_ia (by have := (cl_eo_lt h).1; omega) (cl_cell_ea h)
theorem cq_wr {j : Nat} {i x : Int32} {K : xo_G → Prop} (h : j ∈ cl_eo) : ev_is (cl_put B τ g) (B + (j + 1)) i x K ↔ xo_out i 120 = false ∧ K (cl_put B (cl_s τ (j + 1) i.toNatClampNeg x) g) := cl_is (by have := (cl_eo_lt h).1; omega) (by have := (cl_eo_lt h).1; omega) (cl_cell_ea h) (by rw [cl_cell_ea h, cl_s_1, if_pos rfl])
theorem cq_copy {j k n : Nat} {K : xo_G → Prop} (h : j ∈ cl_eo) (hk : k ∈ cl_eo) (hn : n ≤ 120) : ev_ac (cl_put B τ g) (B + (k + 1)) 0 (B + (j + 1)) 0 (nI n) K ↔ K (cl_put B (cl_ar τ (j + 1) (va_cpy (τ.1 (k + 1)) (τ.1 (j + 1)) 0 0 n)) g) := by
  unfold ev_ac
  have l1 := (cl_eo_lt h).1
  have l2 := (cl_eo_lt hk).1
  rw [cl_at B τ g (j := k + 1) (by omega), cl_at B τ g (j := j + 1) (by omega), cl_cell_ea h, cl_cell_ea hk]
  have e0 : (0 : Int32).toNatClampNeg = 0 := rfl
  have p0 : ¬ nI n < 0 := nI_pos (by omega)
  dsimp only
  rw [e0, nI_clamp (by omega), cl_set B τ (cl_ar τ (j + 1) (va_cpy (τ.1 (k + 1)) (τ.1 (j + 1)) 0 0 n)) g (j := j + 1) (by omega) (by rw [cl_cell_ea h, cl_ar_1, if_pos rfl]) (fun i hi => by rw [cl_ar_1, if_neg hi]) (fun _ => rfl)]
  exact ⟨fun z => z.2, fun z => ⟨⟨by decide, by decide, p0, by omega, by omega⟩, z⟩⟩
end CL
