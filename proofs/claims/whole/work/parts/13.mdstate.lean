/-! THE REFERENCE's object and its rows as one state: int fields and arrays by the field's number (printed by wip/gen/md.py) -/
abbrev md_S : Type := (Nat → Int32) × (Nat → Nat → Int32)
def md_si (σ : md_S) (k : Nat) (v : Int32) : md_S := (va_up σ.1 k v, σ.2)
def md_sa (σ : md_S) (k j : Nat) (v : Int32) : md_S := (σ.1, va_up σ.2 k (upd (σ.2 k) j v))
def md_ad (k : Nat) : Nat := [1, 2, 3, 0, 0, 4, 5, 6, 7, 0, 8, 0, 0, 0, 0, 0, 0, 0, 0, 0, 0, 9, 10, 11, 12, 0, 13, 14, 15, 16, 17, 18, 19, 20, 21, 0, 0, 0, 0, 0, 22].getD k 1
def md_fl (j : Nat) : Nat := [0, 0, 1, 2, 5, 6, 7, 8, 10, 21, 22, 23, 24, 26, 27, 28, 29, 30, 31, 32, 33, 34, 40].getD j 0
def md_ln (j : Nat) : Nat := [0, 120, 120, 120, 24, 144, 24, 240, 3000, 400, 400, 400, 400, 1440, 6, 1440, 6, 6, 6, 6, 6, 240, 240].getD j 0
def md_ty (j : Nat) : FieldType := if j = 14 ∨ j = 16 then .boolean else .int
def md_F (B : Nat) (σ : md_S) : Nat → Value := fun k => if md_ad k = 0 then .int (σ.1 k) else if k < 41 then .ref (B + md_ad k) else .null
def md_cell (B : Nat) (σ : md_S) (j : Nat) : xo_C := if j = 0 then .inl (7, md_F B σ) else .inr (md_ty j, (md_ln j, .inl (σ.2 (md_fl j))))
def md_put (B : Nat) (σ : md_S) (g : xo_G) : xo_G := (fun a => if B ≤ a ∧ a < B + 23 then some (md_cell B σ (a - B)) else g.1 a, g.2)
theorem md_at (B : Nat) (σ : md_S) (g : xo_G) {j : Nat} (h : j < 23) : (md_put B σ g).1 (B + j) = some (md_cell B σ j) := by
  show (if B ≤ B + j ∧ B + j < B + 23 then some (md_cell B σ (B + j - B)) else g.1 (B + j)) = _
  rw [if_pos (by omega), Nat.add_sub_cancel_left]
theorem md_at0 (B : Nat) (σ : md_S) (g : xo_G) : (md_put B σ g).1 B = some (.inl (7, md_F B σ)) := md_at B σ g (j := 0) (by decide)
theorem md_set (B : Nat) (σ σ2 : md_S) (g : xo_G) {j : Nat} {c : xo_C} (h : j < 23) (hc : c = md_cell B σ2 j) (ho : ∀ i, i < 23 → i ≠ j → md_cell B σ2 i = md_cell B σ i) : xo_set (md_put B σ g) (B + j) c = md_put B σ2 g := by
  refine Prod.ext (funext fun a => ?_) rfl
  show va_up (md_put B σ g).1 (B + j) (some c) a = (md_put B σ2 g).1 a
  by_cases e : a = B + j
  · subst e
    rw [va_up_self, md_at B σ2 g h, hc]
  · rw [va_up_ne _ _ e]
    show (if B ≤ a ∧ a < B + 23 then some (md_cell B σ (a - B)) else g.1 a) = (if B ≤ a ∧ a < B + 23 then some (md_cell B σ2 (a - B)) else g.1 a)
    split
    · rw [ho (a - B) (by omega) (by omega)]
    · rfl
theorem md_fl_inj0 : ∀ i, i < 23 → ∀ j, j < 23 → (i = 0 ∨ j = 0 ∨ i = j ∨ ¬ md_fl i = md_fl j) := by decide +kernel
theorem md_fl_inj (i : Nat) (hi : i < 23) (j : Nat) (hj : j < 23) (h0 : 0 < i) (h1 : 0 < j) (hn : i ≠ j) : md_fl i ≠ md_fl j := by
  rcases md_fl_inj0 i hi j hj with h | h | h | h
  · omega
  · omega
  · exact absurd h hn
  · exact h
theorem md_setA (B : Nat) (σ : md_S) (g : xo_G) {j i : Nat} {v : Int32} (h : j < 23) (h0 : 0 < j) : xo_set (md_put B σ g) (B + j) (.inr (md_ty j, (md_ln j, .inl (upd (σ.2 (md_fl j)) i v)))) = md_put B (md_sa σ (md_fl j) i v) g := by
  refine md_set B σ _ g h ?_ (fun k hk hne => ?_)
  · unfold md_cell
    rw [if_neg (by omega)]
    simp only [md_sa, va_up_self]
  · unfold md_cell
    by_cases hk0 : k = 0
    · rw [if_pos hk0, if_pos hk0]
      rfl
    · rw [if_neg hk0, if_neg hk0]
      simp only [md_sa]
      rw [va_up_ne _ _ (md_fl_inj k hk j h (by omega) h0 hne)]
theorem md_setI (B : Nat) (σ : md_S) (g : xo_G) {k : Nat} {v : Int32} (h : md_ad k = 0) : xo_set (md_put B σ g) B (.inl (7, va_up (md_F B σ) k (.int v))) = md_put B (md_si σ k v) g := by
  refine md_set B σ _ g (j := 0) (by decide) ?_ (fun i hi hne => ?_)
  · unfold md_cell
    rw [if_pos rfl]
    congr 2
    funext j
    unfold md_F
    by_cases e : j = k
    · subst e
      rw [va_up_self]
      simp [md_si, va_up_self, h]
    · rw [va_up_ne _ _ e]
      simp [md_si, va_up_ne _ _ e]
  · unfold md_cell
    rw [if_neg hne, if_neg hne]
    rfl
theorem md_si_1 (σ : md_S) (k j : Nat) (v : Int32) : (md_si σ k v).1 j = if j = k then v else σ.1 j := rfl
theorem md_si_2 (σ : md_S) (k : Nat) (v : Int32) : (md_si σ k v).2 = σ.2 := rfl
theorem md_sa_1 (σ : md_S) (k j : Nat) (v : Int32) : (md_sa σ k j v).1 = σ.1 := rfl
theorem md_sa_2 (σ : md_S) (k j q : Nat) (v : Int32) : (md_sa σ k j v).2 q = if q = k then upd (σ.2 k) j v else σ.2 q := rfl
section MD
variable {X : xo_X} {B : Nat} {σ : md_S} {g : xo_G}
theorem md_rc {P : Prop} : ev_rc X (md_put B σ g) B 7 P ↔ P := by
  unfold ev_rc xo_ob
  rw [md_at0]
  simp
theorem md_gfI {k : Nat} {K : Value → Prop} (h : md_ad k = 0) : ev_gf (md_put B σ g) B 7 k K ↔ K (.int (σ.1 k)) := by
  unfold ev_gf
  rw [md_at0]
  simp [md_F, h]
theorem md_gfA {k : Nat} {K : Value → Prop} (h : ¬ md_ad k = 0) (h41 : k < 41) : ev_gf (md_put B σ g) B 7 k K ↔ K (.ref (B + md_ad k)) := by
  unfold ev_gf
  rw [md_at0]
  simp [md_F, h, h41]
theorem md_pfI {k : Nat} {v : Int32} {K : xo_G → Prop} (h : md_ad k = 0) (ht : xp_ty 7 k = .int) : ev_pf (md_put B σ g) B 7 k (.int v) True K ↔ K (md_put B (md_si σ k v) g) := by
  unfold ev_pf
  rw [md_at0]
  simp [ht, xo_fit, md_setI B σ g h]
theorem md_pfZ {k : Nat} {v : Int32} {K : xo_G → Prop} (h : md_ad k = 0) (ht : xp_ty 7 k = .boolean) : ev_pf (md_put B σ g) B 7 k (.int v) True K ↔ (v = 0 ∨ v = 1) ∧ K (md_put B (md_si σ k v) g) := by
  unfold ev_pf
  rw [md_at0]
  simp [ht, xo_fit, md_setI B σ g h]
theorem md_iaA {j : Nat} {i : Int32} {K : Int32 → Prop} (h : j < 23) (h0 : 0 < j) (ht : md_ty j = .int) : ev_ia X (md_put B σ g) (B + j) i K ↔ xo_out i (md_ln j) = false ∧ K (σ.2 (md_fl j) i.toNatClampNeg) := by
  unfold ev_ia xo_ri
  rw [md_at B σ g h]
  unfold md_cell
  rw [if_neg (by omega), ht]
theorem md_baA {j : Nat} {i : Int32} {K : Int32 → Prop} (h : j < 23) (h0 : 0 < j) (ht : md_ty j = .boolean) : ev_ba X (md_put B σ g) (B + j) i K ↔ xo_out i (md_ln j) = false ∧ K (σ.2 (md_fl j) i.toNatClampNeg) := by
  unfold ev_ba xo_rb
  rw [md_at B σ g h]
  unfold md_cell
  rw [if_neg (by omega), ht]
theorem md_isA {j : Nat} {i x : Int32} {K : xo_G → Prop} (h : j < 23) (h0 : 0 < j) (ht : md_ty j = .int) : ev_is (md_put B σ g) (B + j) i x K ↔ xo_out i (md_ln j) = false ∧ K (md_put B (md_sa σ (md_fl j) i.toNatClampNeg x) g) := by
  unfold ev_is
  rw [md_at B σ g h, ← md_setA B σ g h h0]
  unfold md_cell
  rw [if_neg (by omega), ht]
theorem md_bsA {j : Nat} {i x : Int32} {K : xo_G → Prop} (h : j < 23) (h0 : 0 < j) (ht : md_ty j = .boolean) : ev_bs (md_put B σ g) (B + j) i x K ↔ xo_out i (md_ln j) = false ∧ K (md_put B (md_sa σ (md_fl j) i.toNatClampNeg (vp_nar .boolean x)) g) := by
  unfold ev_bs
  rw [md_at B σ g h, ← md_setA B σ g h h0]
  unfold md_cell
  rw [if_neg (by omega), ht]
theorem mg_kind {K : Value → Prop} : ev_gf (md_put B σ g) B 7 0 K ↔ K (.ref (B + 1)) := md_gfA (by decide) (by decide)
theorem mr_kind {i : Int32} {K : Int32 → Prop} : ev_ia X (md_put B σ g) (B + 1) i K ↔ xo_out i 120 = false ∧ K (σ.2 0 i.toNatClampNeg) := md_iaA (by decide) (by decide) rfl
theorem mw_kind {i x : Int32} {K : xo_G → Prop} : ev_is (md_put B σ g) (B + 1) i x K ↔ xo_out i 120 = false ∧ K (md_put B (md_sa σ 0 i.toNatClampNeg x) g) := md_isA (by decide) (by decide) rfl
theorem mg_one {K : Value → Prop} : ev_gf (md_put B σ g) B 7 1 K ↔ K (.ref (B + 2)) := md_gfA (by decide) (by decide)
theorem mr_one {i : Int32} {K : Int32 → Prop} : ev_ia X (md_put B σ g) (B + 2) i K ↔ xo_out i 120 = false ∧ K (σ.2 1 i.toNatClampNeg) := md_iaA (by decide) (by decide) rfl
theorem mw_one {i x : Int32} {K : xo_G → Prop} : ev_is (md_put B σ g) (B + 2) i x K ↔ xo_out i 120 = false ∧ K (md_put B (md_sa σ 1 i.toNatClampNeg x) g) := md_isA (by decide) (by decide) rfl
theorem mg_two {K : Value → Prop} : ev_gf (md_put B σ g) B 7 2 K ↔ K (.ref (B + 3)) := md_gfA (by decide) (by decide)
theorem mr_two {i : Int32} {K : Int32 → Prop} : ev_ia X (md_put B σ g) (B + 3) i K ↔ xo_out i 120 = false ∧ K (σ.2 2 i.toNatClampNeg) := md_iaA (by decide) (by decide) rfl
theorem mw_two {i x : Int32} {K : xo_G → Prop} : ev_is (md_put B σ g) (B + 3) i x K ↔ xo_out i 120 = false ∧ K (md_put B (md_sa σ 2 i.toNatClampNeg x) g) := md_isA (by decide) (by decide) rfl
theorem mg_variables {K : Value → Prop} : ev_gf (md_put B σ g) B 7 3 K ↔ K (.int (σ.1 3)) := md_gfI (by decide)
theorem mp_variables {v : Int32} {K : xo_G → Prop} : ev_pf (md_put B σ g) B 7 3 (.int v) True K ↔ K (md_put B (md_si σ 3 v) g) := md_pfI (by decide) (by decide +kernel)
theorem mg_inputs {K : Value → Prop} : ev_gf (md_put B σ g) B 7 4 K ↔ K (.int (σ.1 4)) := md_gfI (by decide)
theorem mp_inputs {v : Int32} {K : xo_G → Prop} : ev_pf (md_put B σ g) B 7 4 (.int v) True K ↔ K (md_put B (md_si σ 4 v) g) := md_pfI (by decide) (by decide +kernel)
theorem mg_inputOf {K : Value → Prop} : ev_gf (md_put B σ g) B 7 5 K ↔ K (.ref (B + 4)) := md_gfA (by decide) (by decide)
theorem mr_inputOf {i : Int32} {K : Int32 → Prop} : ev_ia X (md_put B σ g) (B + 4) i K ↔ xo_out i 24 = false ∧ K (σ.2 5 i.toNatClampNeg) := md_iaA (by decide) (by decide) rfl
theorem mw_inputOf {i x : Int32} {K : xo_G → Prop} : ev_is (md_put B σ g) (B + 4) i x K ↔ xo_out i 24 = false ∧ K (md_put B (md_sa σ 5 i.toNatClampNeg x) g) := md_isA (by decide) (by decide) rfl
theorem mg_nameSign {K : Value → Prop} : ev_gf (md_put B σ g) B 7 6 K ↔ K (.ref (B + 5)) := md_gfA (by decide) (by decide)
theorem mr_nameSign {i : Int32} {K : Int32 → Prop} : ev_ia X (md_put B σ g) (B + 5) i K ↔ xo_out i 144 = false ∧ K (σ.2 6 i.toNatClampNeg) := md_iaA (by decide) (by decide) rfl
theorem mw_nameSign {i x : Int32} {K : xo_G → Prop} : ev_is (md_put B σ g) (B + 5) i x K ↔ xo_out i 144 = false ∧ K (md_put B (md_sa σ 6 i.toNatClampNeg x) g) := md_isA (by decide) (by decide) rfl
theorem mg_nameSize {K : Value → Prop} : ev_gf (md_put B σ g) B 7 7 K ↔ K (.ref (B + 6)) := md_gfA (by decide) (by decide)
theorem mr_nameSize {i : Int32} {K : Int32 → Prop} : ev_ia X (md_put B σ g) (B + 6) i K ↔ xo_out i 24 = false ∧ K (σ.2 7 i.toNatClampNeg) := md_iaA (by decide) (by decide) rfl
theorem mw_nameSize {i x : Int32} {K : xo_G → Prop} : ev_is (md_put B σ g) (B + 6) i x K ↔ xo_out i 24 = false ∧ K (md_put B (md_sa σ 7 i.toNatClampNeg x) g) := md_isA (by decide) (by decide) rfl
theorem mg_label {K : Value → Prop} : ev_gf (md_put B σ g) B 7 8 K ↔ K (.ref (B + 7)) := md_gfA (by decide) (by decide)
theorem mr_label {i : Int32} {K : Int32 → Prop} : ev_ia X (md_put B σ g) (B + 7) i K ↔ xo_out i 240 = false ∧ K (σ.2 8 i.toNatClampNeg) := md_iaA (by decide) (by decide) rfl
theorem mw_label {i x : Int32} {K : xo_G → Prop} : ev_is (md_put B σ g) (B + 7) i x K ↔ xo_out i 240 = false ∧ K (md_put B (md_sa σ 8 i.toNatClampNeg x) g) := md_isA (by decide) (by decide) rfl
theorem mg_isContrary {K : Value → Prop} : ev_gf (md_put B σ g) B 7 9 K ↔ K (.int (σ.1 9)) := md_gfI (by decide)
theorem mp_isContrary {v : Int32} {K : xo_G → Prop} : ev_pf (md_put B σ g) B 7 9 (.int v) True K ↔ (v = 0 ∨ v = 1) ∧ K (md_put B (md_si σ 9 v) g) := md_pfZ (by decide) (by decide +kernel)
theorem mg_text {K : Value → Prop} : ev_gf (md_put B σ g) B 7 10 K ↔ K (.ref (B + 8)) := md_gfA (by decide) (by decide)
theorem mr_text {i : Int32} {K : Int32 → Prop} : ev_ia X (md_put B σ g) (B + 8) i K ↔ xo_out i 3000 = false ∧ K (σ.2 10 i.toNatClampNeg) := md_iaA (by decide) (by decide) rfl
theorem mw_text {i x : Int32} {K : xo_G → Prop} : ev_is (md_put B σ g) (B + 8) i x K ↔ xo_out i 3000 = false ∧ K (md_put B (md_sa σ 10 i.toNatClampNeg x) g) := md_isA (by decide) (by decide) rfl
theorem mg_textSize {K : Value → Prop} : ev_gf (md_put B σ g) B 7 11 K ↔ K (.int (σ.1 11)) := md_gfI (by decide)
theorem mp_textSize {v : Int32} {K : xo_G → Prop} : ev_pf (md_put B σ g) B 7 11 (.int v) True K ↔ K (md_put B (md_si σ 11 v) g) := md_pfI (by decide) (by decide +kernel)
theorem mg_at {K : Value → Prop} : ev_gf (md_put B σ g) B 7 12 K ↔ K (.int (σ.1 12)) := md_gfI (by decide)
theorem mp_at {v : Int32} {K : xo_G → Prop} : ev_pf (md_put B σ g) B 7 12 (.int v) True K ↔ K (md_put B (md_si σ 12 v) g) := md_pfI (by decide) (by decide +kernel)
theorem mg_token {K : Value → Prop} : ev_gf (md_put B σ g) B 7 13 K ↔ K (.int (σ.1 13)) := md_gfI (by decide)
theorem mp_token {v : Int32} {K : xo_G → Prop} : ev_pf (md_put B σ g) B 7 13 (.int v) True K ↔ K (md_put B (md_si σ 13 v) g) := md_pfI (by decide) (by decide +kernel)
theorem mg_tokenAt {K : Value → Prop} : ev_gf (md_put B σ g) B 7 14 K ↔ K (.int (σ.1 14)) := md_gfI (by decide)
theorem mp_tokenAt {v : Int32} {K : xo_G → Prop} : ev_pf (md_put B σ g) B 7 14 (.int v) True K ↔ K (md_put B (md_si σ 14 v) g) := md_pfI (by decide) (by decide +kernel)
theorem mg_tokenSize {K : Value → Prop} : ev_gf (md_put B σ g) B 7 15 K ↔ K (.int (σ.1 15)) := md_gfI (by decide)
theorem mp_tokenSize {v : Int32} {K : xo_G → Prop} : ev_pf (md_put B σ g) B 7 15 (.int v) True K ↔ K (md_put B (md_si σ 15 v) g) := md_pfI (by decide) (by decide +kernel)
theorem mg_scanned {K : Value → Prop} : ev_gf (md_put B σ g) B 7 16 K ↔ K (.int (σ.1 16)) := md_gfI (by decide)
theorem mp_scanned {v : Int32} {K : xo_G → Prop} : ev_pf (md_put B σ g) B 7 16 (.int v) True K ↔ (v = 0 ∨ v = 1) ∧ K (md_put B (md_si σ 16 v) g) := md_pfZ (by decide) (by decide +kernel)
theorem mg_fault {K : Value → Prop} : ev_gf (md_put B σ g) B 7 17 K ↔ K (.int (σ.1 17)) := md_gfI (by decide)
theorem mp_fault {v : Int32} {K : xo_G → Prop} : ev_pf (md_put B σ g) B 7 17 (.int v) True K ↔ K (md_put B (md_si σ 17 v) g) := md_pfI (by decide) (by decide +kernel)
theorem mg_faultAt {K : Value → Prop} : ev_gf (md_put B σ g) B 7 18 K ↔ K (.int (σ.1 18)) := md_gfI (by decide)
theorem mp_faultAt {v : Int32} {K : xo_G → Prop} : ev_pf (md_put B σ g) B 7 18 (.int v) True K ↔ K (md_put B (md_si σ 18 v) g) := md_pfI (by decide) (by decide +kernel)
theorem mg_place {K : Value → Prop} : ev_gf (md_put B σ g) B 7 19 K ↔ K (.int (σ.1 19)) := md_gfI (by decide)
theorem mp_place {v : Int32} {K : xo_G → Prop} : ev_pf (md_put B σ g) B 7 19 (.int v) True K ↔ K (md_put B (md_si σ 19 v) g) := md_pfI (by decide) (by decide +kernel)
theorem mg_open {K : Value → Prop} : ev_gf (md_put B σ g) B 7 20 K ↔ K (.int (σ.1 20)) := md_gfI (by decide)
theorem mp_open {v : Int32} {K : xo_G → Prop} : ev_pf (md_put B σ g) B 7 20 (.int v) True K ↔ K (md_put B (md_si σ 20 v) g) := md_pfI (by decide) (by decide +kernel)
theorem mg_level {K : Value → Prop} : ev_gf (md_put B σ g) B 7 21 K ↔ K (.ref (B + 9)) := md_gfA (by decide) (by decide)
theorem mr_level {i : Int32} {K : Int32 → Prop} : ev_ia X (md_put B σ g) (B + 9) i K ↔ xo_out i 400 = false ∧ K (σ.2 21 i.toNatClampNeg) := md_iaA (by decide) (by decide) rfl
theorem mw_level {i x : Int32} {K : xo_G → Prop} : ev_is (md_put B σ g) (B + 9) i x K ↔ xo_out i 400 = false ∧ K (md_put B (md_sa σ 21 i.toNatClampNeg x) g) := md_isA (by decide) (by decide) rfl
theorem mg_stage {K : Value → Prop} : ev_gf (md_put B σ g) B 7 22 K ↔ K (.ref (B + 10)) := md_gfA (by decide) (by decide)
theorem mr_stage {i : Int32} {K : Int32 → Prop} : ev_ia X (md_put B σ g) (B + 10) i K ↔ xo_out i 400 = false ∧ K (σ.2 22 i.toNatClampNeg) := md_iaA (by decide) (by decide) rfl
theorem mw_stage {i x : Int32} {K : xo_G → Prop} : ev_is (md_put B σ g) (B + 10) i x K ↔ xo_out i 400 = false ∧ K (md_put B (md_sa σ 22 i.toNatClampNeg x) g) := md_isA (by decide) (by decide) rfl
theorem mg_held {K : Value → Prop} : ev_gf (md_put B σ g) B 7 23 K ↔ K (.ref (B + 11)) := md_gfA (by decide) (by decide)
theorem mr_held {i : Int32} {K : Int32 → Prop} : ev_ia X (md_put B σ g) (B + 11) i K ↔ xo_out i 400 = false ∧ K (σ.2 23 i.toNatClampNeg) := md_iaA (by decide) (by decide) rfl
theorem mw_held {i x : Int32} {K : xo_G → Prop} : ev_is (md_put B σ g) (B + 11) i x K ↔ xo_out i 400 = false ∧ K (md_put B (md_sa σ 23 i.toNatClampNeg x) g) := md_isA (by decide) (by decide) rfl
theorem mg_signPlace {K : Value → Prop} : ev_gf (md_put B σ g) B 7 24 K ↔ K (.ref (B + 12)) := md_gfA (by decide) (by decide)
theorem mr_signPlace {i : Int32} {K : Int32 → Prop} : ev_ia X (md_put B σ g) (B + 12) i K ↔ xo_out i 400 = false ∧ K (σ.2 24 i.toNatClampNeg) := md_iaA (by decide) (by decide) rfl
theorem mw_signPlace {i x : Int32} {K : xo_G → Prop} : ev_is (md_put B σ g) (B + 12) i x K ↔ xo_out i 400 = false ∧ K (md_put B (md_sa σ 24 i.toNatClampNeg x) g) := md_isA (by decide) (by decide) rfl
theorem mg_value {K : Value → Prop} : ev_gf (md_put B σ g) B 7 25 K ↔ K (.int (σ.1 25)) := md_gfI (by decide)
theorem mp_value {v : Int32} {K : xo_G → Prop} : ev_pf (md_put B σ g) B 7 25 (.int v) True K ↔ K (md_put B (md_si σ 25 v) g) := md_pfI (by decide) (by decide +kernel)
theorem mg_row {K : Value → Prop} : ev_gf (md_put B σ g) B 7 26 K ↔ K (.ref (B + 13)) := md_gfA (by decide) (by decide)
theorem mr_row {i : Int32} {K : Int32 → Prop} : ev_ia X (md_put B σ g) (B + 13) i K ↔ xo_out i 1440 = false ∧ K (σ.2 26 i.toNatClampNeg) := md_iaA (by decide) (by decide) rfl
theorem mw_row {i x : Int32} {K : xo_G → Prop} : ev_is (md_put B σ g) (B + 13) i x K ↔ xo_out i 1440 = false ∧ K (md_put B (md_sa σ 26 i.toNatClampNeg x) g) := md_isA (by decide) (by decide) rfl
theorem mg_contrary {K : Value → Prop} : ev_gf (md_put B σ g) B 7 27 K ↔ K (.ref (B + 14)) := md_gfA (by decide) (by decide)
theorem mr_contrary {i : Int32} {K : Int32 → Prop} : ev_ba X (md_put B σ g) (B + 14) i K ↔ xo_out i 6 = false ∧ K (σ.2 27 i.toNatClampNeg) := md_baA (by decide) (by decide) rfl
theorem mw_contrary {i x : Int32} {K : xo_G → Prop} : ev_bs (md_put B σ g) (B + 14) i x K ↔ xo_out i 6 = false ∧ K (md_put B (md_sa σ 27 i.toNatClampNeg (vp_nar .boolean x)) g) := md_bsA (by decide) (by decide) rfl
theorem mg_firstRow {K : Value → Prop} : ev_gf (md_put B σ g) B 7 28 K ↔ K (.ref (B + 15)) := md_gfA (by decide) (by decide)
theorem mr_firstRow {i : Int32} {K : Int32 → Prop} : ev_ia X (md_put B σ g) (B + 15) i K ↔ xo_out i 1440 = false ∧ K (σ.2 28 i.toNatClampNeg) := md_iaA (by decide) (by decide) rfl
theorem mw_firstRow {i x : Int32} {K : xo_G → Prop} : ev_is (md_put B σ g) (B + 15) i x K ↔ xo_out i 1440 = false ∧ K (md_put B (md_sa σ 28 i.toNatClampNeg x) g) := md_isA (by decide) (by decide) rfl
theorem mg_firstContrary {K : Value → Prop} : ev_gf (md_put B σ g) B 7 29 K ↔ K (.ref (B + 16)) := md_gfA (by decide) (by decide)
theorem mr_firstContrary {i : Int32} {K : Int32 → Prop} : ev_ba X (md_put B σ g) (B + 16) i K ↔ xo_out i 6 = false ∧ K (σ.2 29 i.toNatClampNeg) := md_baA (by decide) (by decide) rfl
theorem mw_firstContrary {i x : Int32} {K : xo_G → Prop} : ev_bs (md_put B σ g) (B + 16) i x K ↔ xo_out i 6 = false ∧ K (md_put B (md_sa σ 29 i.toNatClampNeg (vp_nar .boolean x)) g) := md_bsA (by decide) (by decide) rfl
theorem mg_depthOf {K : Value → Prop} : ev_gf (md_put B σ g) B 7 30 K ↔ K (.ref (B + 17)) := md_gfA (by decide) (by decide)
theorem mr_depthOf {i : Int32} {K : Int32 → Prop} : ev_ia X (md_put B σ g) (B + 17) i K ↔ xo_out i 6 = false ∧ K (σ.2 30 i.toNatClampNeg) := md_iaA (by decide) (by decide) rfl
theorem mw_depthOf {i x : Int32} {K : xo_G → Prop} : ev_is (md_put B σ g) (B + 17) i x K ↔ xo_out i 6 = false ∧ K (md_put B (md_sa σ 30 i.toNatClampNeg x) g) := md_isA (by decide) (by decide) rfl
theorem mg_phase {K : Value → Prop} : ev_gf (md_put B σ g) B 7 31 K ↔ K (.ref (B + 18)) := md_gfA (by decide) (by decide)
theorem mr_phase {i : Int32} {K : Int32 → Prop} : ev_ia X (md_put B σ g) (B + 18) i K ↔ xo_out i 6 = false ∧ K (σ.2 31 i.toNatClampNeg) := md_iaA (by decide) (by decide) rfl
theorem mw_phase {i x : Int32} {K : xo_G → Prop} : ev_is (md_put B σ g) (B + 18) i x K ↔ xo_out i 6 = false ∧ K (md_put B (md_sa σ 31 i.toNatClampNeg x) g) := md_isA (by decide) (by decide) rfl
theorem mg_tried {K : Value → Prop} : ev_gf (md_put B σ g) B 7 32 K ↔ K (.ref (B + 19)) := md_gfA (by decide) (by decide)
theorem mr_tried {i : Int32} {K : Int32 → Prop} : ev_ia X (md_put B σ g) (B + 19) i K ↔ xo_out i 6 = false ∧ K (σ.2 32 i.toNatClampNeg) := md_iaA (by decide) (by decide) rfl
theorem mw_tried {i x : Int32} {K : xo_G → Prop} : ev_is (md_put B σ g) (B + 19) i x K ↔ xo_out i 6 = false ∧ K (md_put B (md_sa σ 32 i.toNatClampNeg x) g) := md_isA (by decide) (by decide) rfl
theorem mg_before {K : Value → Prop} : ev_gf (md_put B σ g) B 7 33 K ↔ K (.ref (B + 20)) := md_gfA (by decide) (by decide)
theorem mr_before {i : Int32} {K : Int32 → Prop} : ev_ia X (md_put B σ g) (B + 20) i K ↔ xo_out i 6 = false ∧ K (σ.2 33 i.toNatClampNeg) := md_iaA (by decide) (by decide) rfl
theorem mw_before {i x : Int32} {K : xo_G → Prop} : ev_is (md_put B σ g) (B + 20) i x K ↔ xo_out i 6 = false ∧ K (md_put B (md_sa σ 33 i.toNatClampNeg x) g) := md_isA (by decide) (by decide) rfl
theorem mg_old {K : Value → Prop} : ev_gf (md_put B σ g) B 7 34 K ↔ K (.ref (B + 21)) := md_gfA (by decide) (by decide)
theorem mr_old {i : Int32} {K : Int32 → Prop} : ev_ia X (md_put B σ g) (B + 21) i K ↔ xo_out i 240 = false ∧ K (σ.2 34 i.toNatClampNeg) := md_iaA (by decide) (by decide) rfl
theorem mw_old {i x : Int32} {K : xo_G → Prop} : ev_is (md_put B σ g) (B + 21) i x K ↔ xo_out i 240 = false ∧ K (md_put B (md_sa σ 34 i.toNatClampNeg x) g) := md_isA (by decide) (by decide) rfl
theorem mg_steps {K : Value → Prop} : ev_gf (md_put B σ g) B 7 35 K ↔ K (.int (σ.1 35)) := md_gfI (by decide)
theorem mp_steps {v : Int32} {K : xo_G → Prop} : ev_pf (md_put B σ g) B 7 35 (.int v) True K ↔ K (md_put B (md_si σ 35 v) g) := md_pfI (by decide) (by decide +kernel)
theorem mg_mostSteps {K : Value → Prop} : ev_gf (md_put B σ g) B 7 36 K ↔ K (.int (σ.1 36)) := md_gfI (by decide)
theorem mp_mostSteps {v : Int32} {K : xo_G → Prop} : ev_pf (md_put B σ g) B 7 36 (.int v) True K ↔ K (md_put B (md_si σ 36 v) g) := md_pfI (by decide) (by decide +kernel)
theorem mg_rounds {K : Value → Prop} : ev_gf (md_put B σ g) B 7 37 K ↔ K (.int (σ.1 37)) := md_gfI (by decide)
theorem mp_rounds {v : Int32} {K : xo_G → Prop} : ev_pf (md_put B σ g) B 7 37 (.int v) True K ↔ K (md_put B (md_si σ 37 v) g) := md_pfI (by decide) (by decide +kernel)
theorem mg_passes {K : Value → Prop} : ev_gf (md_put B σ g) B 7 38 K ↔ K (.int (σ.1 38)) := md_gfI (by decide)
theorem mp_passes {v : Int32} {K : xo_G → Prop} : ev_pf (md_put B σ g) B 7 38 (.int v) True K ↔ K (md_put B (md_si σ 38 v) g) := md_pfI (by decide) (by decide +kernel)
theorem mg_branches {K : Value → Prop} : ev_gf (md_put B σ g) B 7 39 K ↔ K (.int (σ.1 39)) := md_gfI (by decide)
theorem mp_branches {v : Int32} {K : xo_G → Prop} : ev_pf (md_put B σ g) B 7 39 (.int v) True K ↔ K (md_put B (md_si σ 39 v) g) := md_pfI (by decide) (by decide +kernel)
theorem mg_worth {K : Value → Prop} : ev_gf (md_put B σ g) B 7 40 K ↔ K (.ref (B + 22)) := md_gfA (by decide) (by decide)
theorem mr_worth {i : Int32} {K : Int32 → Prop} : ev_ia X (md_put B σ g) (B + 22) i K ↔ xo_out i 240 = false ∧ K (σ.2 40 i.toNatClampNeg) := md_iaA (by decide) (by decide) rfl
theorem mw_worth {i x : Int32} {K : xo_G → Prop} : ev_is (md_put B σ g) (B + 22) i x K ↔ xo_out i 240 = false ∧ K (md_put B (md_sa σ 40 i.toNatClampNeg x) g) := md_isA (by decide) (by decide) rfl
end MD
