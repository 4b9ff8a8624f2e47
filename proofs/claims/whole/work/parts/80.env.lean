/-! THE LAW'S START: the environment out of the tables' words and of what the Statement gives -/
def xb_tab {α : Type} (ad : Nat → Nat) (f : Nat → α) (a : Nat) : Option α := if a = ad 0 then some (f 0) else if a = ad 1 then some (f 1) else if a = ad 2 then some (f 2) else if a = ad 3 then some (f 3) else none
theorem xb_at {α : Type} {ad : Nat → Nat} {f : Nat → α} (h : ∀ i j, i < 4 → j < 4 → ad i = ad j → i = j) {i : Nat} (hi : i < 4) : xb_tab ad f (ad i) = some (f i) := by
  have n : ∀ j, j < 4 → i ≠ j → ad i ≠ ad j := fun j hj hn e => hn (h i j hi hj e)
  unfold xb_tab
  rcases (show i = 0 ∨ i = 1 ∨ i = 2 ∨ i = 3 by omega) with rfl | rfl | rfl | rfl
  · rw [if_pos rfl]
  · rw [if_neg (n 0 (by decide) (by decide)), if_pos rfl]
  · rw [if_neg (n 0 (by decide) (by decide)), if_neg (n 1 (by decide) (by decide)), if_pos rfl]
  · rw [if_neg (n 0 (by decide) (by decide)), if_neg (n 1 (by decide) (by decide)), if_neg (n 2 (by decide) (by decide)), if_pos rfl]
theorem xb_inv {α : Type} {ad : Nat → Nat} {f : Nat → α} {a : Nat} {y : α} (h : xb_tab ad f a = some y) : ∃ i, i < 4 ∧ a = ad i ∧ y = f i := by
  unfold xb_tab at h
  split at h
  · cases h
    exact ⟨0, by decide, by assumption, rfl⟩
  · split at h
    · cases h
      exact ⟨1, by decide, by assumption, rfl⟩
    · split at h
      · cases h
        exact ⟨2, by decide, by assumption, rfl⟩
      · split at h
        · cases h
          exact ⟨3, by decide, by assumption, rfl⟩
        · cases h
def xb_tx : List (List Nat) := [[116, 114, 117, 101], [102, 97, 108, 115, 101], [45, 62], [60, 45, 62]]
def xb_len : List Nat := [4, 5, 2, 3]
def xb_byt : List (List Int32) := xb_tx.map fun s => s.map nI
def xb_tm (i : Nat) : Term := .string "DilemmaProver$Reader" ([125, 135, 137, 139].getD i 0)
def xb_fl : List Cond := flatC (Jvm.Cond.and given_1 narrow_1)
theorem xb_byte {i j : Nat} (hi : i < 4) : (xb_byt.getD i []).getD j 0 = nI ((xb_tx.getD i []).getD j 0) := by
  have h : ∀ s : List Nat, (s.map nI).getD j 0 = nI (s.getD j 0) := fun s => by
    by_cases hj : j < s.length
    · simp [List.getD, hj]
    · have e1 : (s.map nI)[j]? = none := List.getElem?_eq_none (by simpa using hj)
      have e2 : s[j]? = none := List.getElem?_eq_none (by omega)
      simp only [List.getD, e1, e2]
      rfl
  rcases (show i = 0 ∨ i = 1 ∨ i = 2 ∨ i = 3 by omega) with rfl | rfl | rfl | rfl
  · exact h [116, 114, 117, 101]
  · exact h [102, 97, 108, 115, 101]
  · exact h [45, 62]
  · exact h [60, 45, 62]
theorem xb_ln : ∀ i, i < 4 → xb_len.getD i 0 = (xb_tx.getD i []).length := by decide
theorem xb_lne : ∀ i, i < 4 → ∀ j, j < 4 → Int32.ofNat (xb_len.getD i 0) = Int32.ofNat (xb_len.getD j 0) → i = j := by decide
theorem xb_ex : ∀ i, i < 4 → Cond.exactly (xb_tm i) "java/lang/String" ∈ xb_fl := by decide +kernel
theorem xb_co : ∀ i, i < 4 → Cond.eq (.field (xb_tm i) "java/lang/String" "coder" "B") (.int 0) ∈ xb_fl := by decide +kernel
theorem xb_ar : ∀ i, i < 4 → Cond.arrayOf (.field (xb_tm i) "java/lang/String" "value" "[B") .byte ∈ xb_fl := by decide +kernel
theorem xb_le : ∀ i, i < 4 → Cond.eq (.length (.field (xb_tm i) "java/lang/String" "value" "[B")) (.int (Int32.ofNat (xb_len.getD i 0))) ∈ xb_fl := by decide +kernel
theorem xb_el : ∀ i, i < 4 → ∀ j, j < xb_len.getD i 0 → Cond.eq (.elem (.field (xb_tm i) "java/lang/String" "value" "[B") (.int (Int32.ofNat j))) (.int ((xb_byt.getD i []).getD j 0)) ∈ xb_fl := by decide +kernel
theorem xb_ne : ∀ i, i < 4 → ∀ j, j < 4 → i ≠ j → (Cond.not (Cond.eq (xb_tm i) (xb_tm j)) ∈ xb_fl ∨ Cond.not (Cond.eq (xb_tm j) (xb_tm i)) ∈ xb_fl) := by decide +kernel
def xb_wp : Term := .static "DilemmaProver$Table" "WORD_PATTERNS" "[J"
theorem xb_wa : Cond.arrayOf xb_wp .long ∈ xb_fl ∧ Cond.eq (.length xb_wp) (.int (Int32.ofNat 6)) ∈ xb_fl := by decide +kernel
theorem xb_we : ∀ j, j < 6 → Cond.eq (.elem xb_wp (.int (Int32.ofNat j))) (.long (cs_pt j)) ∈ xb_fl := by decide +kernel
theorem xb_cs : Cond.eq (.static "java/lang/String" "COMPACT_STRINGS" "Z") (.int 1) ∈ xb_fl ∧ Cond.isRef (.static "jdk/internal/util/Preconditions" "SIOOBE_FORMATTER" "Ljava/util/function/BiFunction;") ∈ xb_fl := by decide +kernel
/-- a word of the tables by its place -/
theorem xb_w {s : State} {args : Array Value} (hts : ∀ w ∈ lw_tbl, w.before args s = true) (i : Nat) {w : Cond} (h : decide (lw_tbl[i]? = some w) = true) : w.before args s = true := hts w (List.mem_of_getElem? (of_decide_eq_true h))
theorem xb_in : ∀ ci, ci < 8 → decide (lw_tbl[[115, 180, 149, 203, 234, 101, 93, 744].getD ci 0]? = some (Cond.instantiable (xp_R ci) (xp_N ci))) = true := by decide +kernel
theorem xb_t0 : decide (lw_tbl[113]? = some (Cond.arrayClass .byte)) = true ∧ decide (lw_tbl[147]? = some (Cond.arrayClass .int)) = true ∧ decide (lw_tbl[246]? = some (Cond.arrayClass .long)) = true ∧ decide (lw_tbl[873]? = some (Cond.arrayClass .boolean)) = true := by decide +kernel
theorem xb_t1 : decide (lw_tbl[121]? = some (Cond.arrayOver (.array .int))) = true ∧ decide (lw_tbl[210]? = some (Cond.arrayOver (.object "DilemmaProver$Equivalence"))) = true := by decide +kernel
theorem xb_t2 : decide (lw_tbl[102]? = some xe_n1) = true ∧ decide (lw_tbl[116]? = some xe_n2) = true := by decide +kernel
theorem xb_t3 : decide (lw_tbl[716]? = some (Cond.laysStatic "DilemmaProver$Table" "WORD_PATTERNS" "[J")) = true ∧ decide (lw_tbl[363]? = some (Cond.laysStatic "java/lang/String" "COMPACT_STRINGS" "Z")) = true ∧ decide (lw_tbl[380]? = some (Cond.laysStatic "jdk/internal/util/Preconditions" "SIOOBE_FORMATTER" "Ljava/util/function/BiFunction;")) = true := by decide +kernel
theorem xb_t4 : decide (lw_tbl[82]? = some (Cond.initialized "DilemmaProver$Table")) = true ∧ decide (lw_tbl[84]? = some (Cond.initialized "java/lang/String")) = true ∧ decide (lw_tbl[86]? = some (Cond.initialized "jdk/internal/util/Preconditions")) = true := by decide +kernel
theorem xb_t5 : decide (lw_tbl[349]? = some (Cond.stringRef "DilemmaProver$Reader" 125 "true")) = true ∧ decide (lw_tbl[407]? = some (Cond.stringRef "DilemmaProver$Reader" 135 "false")) = true ∧ decide (lw_tbl[412]? = some (Cond.stringRef "DilemmaProver$Reader" 137 "->")) = true ∧ decide (lw_tbl[413]? = some (Cond.stringRef "DilemmaProver$Reader" 139 "<->")) = true := by decide +kernel
def xb_cy (s : State) (ty : FieldType) : ClassId := (s.vm.findClass ("[" ++ ty.toString)).getD 0
theorem xb_ac {s : State} {args : Array Value} {ty : FieldType} (h : (Cond.arrayClass ty).before args s = true) : ArrOfT s (xb_cy s ty) ty ∧ s.vm.findClass ("[" ++ ty.toString) = some (xb_cy s ty) := by
  obtain ⟨cA, kA, comp, h1, h2, h3⟩ := Cond.arrayClass_spec h
  have e : xb_cy s ty = cA := by unfold xb_cy; rw [h1]; rfl
  rw [e]
  exact ⟨fun n z => ⟨fun k h => (by cases h), kA, h2, comp, h3⟩, h1⟩
theorem xb_aA {s : State} {args : Array Value} {t : FieldType} (h : (Cond.arrayOver (.array t)).before args s = true) : ArrOfT s (xb_cy s (.array t)) (.array t) ∧ s.vm.findClass ("[" ++ (FieldType.array t).toString) = some (xb_cy s (.array t)) := by
  obtain ⟨comp, cA, kA, -, -, h2, h3, h1⟩ := Jvm.Stand.arrayOver_specB h
  have e : xb_cy s (.array t) = cA := by unfold xb_cy; rw [h1]; rfl
  rw [e]
  exact ⟨fun n z => ⟨fun k h => (by cases h), kA, h2, comp, h3⟩, h1⟩
theorem xb_aO {s : State} {args : Array Value} {C : String} (h : (Cond.arrayOver (.object C)).before args s = true) : ArrOfT s (xb_cy s (.object C)) (.object C) ∧ va_RA s (xb_cy s (.object C)) (.object C) := by
  obtain ⟨comp, cA, kA, h0, -, h2, h3, h1⟩ := Cond.arrayOver_spec h
  have e : xb_cy s (.object C) = cA := by unfold xb_cy; rw [h1]; rfl
  rw [e]
  exact ⟨fun n z => ⟨fun k h => (by cases h), kA, h2, comp, h3⟩, kA, comp, h2, h3, h0, h1⟩
theorem xb_K {s : State} {args : Array Value} (hts : ∀ w ∈ lw_tbl, w.before args s = true) : ∃ D : va_G, va_K D vwCl (xe_tys (xb_cy s)) s := by
  have h0 : ∀ ci : Nat, ∃ q : ClassId × (Nat → Nat), ci < 8 → u_Kn s (xp_R ci) (xp_T ci) (xp_N ci) q.1 q.2 := fun ci => by
    by_cases h : ci < 8
    · obtain ⟨cC, iS, hk⟩ := u_known (ws := xp_tw) (fun w hw => hts w (List.mem_filter.mp hw).1) (xp_u h) (xb_w hts _ (xb_in ci h))
      exact ⟨(cC, iS), fun _ => hk⟩
    · exact ⟨(0, fun _ => 0), fun q => absurd q h⟩
  obtain ⟨f, hf⟩ := Classical.axiomOfChoice h0
  refine ⟨(fun c => (f c).1, fun c => (f c).2), fun c q hq => ?_, fun k q hk => ?_⟩
  · have hc : c < 8 := (List.getElem?_eq_some_iff.mp hq).1
    have e := (xf_vw c hc).symm.trans hq
    cases e
    exact hf c hc
  · have hm := List.mem_of_getElem? hk
    simp only [xe_tys, List.mem_cons, List.not_mem_nil, or_false] at hm
    rcases hm with rfl | rfl | rfl | rfl | rfl | rfl
    · exact xb_ac (xb_w hts 147 xb_t0.2.1)
    · exact xb_ac (xb_w hts 113 xb_t0.1)
    · exact xb_ac (xb_w hts 246 xb_t0.2.2.1)
    · exact xb_ac (xb_w hts 873 xb_t0.2.2.2)
    · exact xb_aO (xb_w hts 210 xb_t1.2)
    · exact xb_aA (xb_w hts 121 xb_t1.1)
def xb_fV (i : Nat) : Nat × (Nat → Int32) := ((xb_tx.getD i []).length, fun j => nI ((xb_tx.getD i []).getD j 0))
def xb_fK (adV : Nat → Nat) (i : Nat) : Nat × (Nat → Value) := (8, fun j => if j = 0 then .ref (adV i) else .int 0)
def xb_X (b L : Nat) (xs : Nat → Int32) (adK adV : Nat → Nat) (t : Nat) (fm : Value) : xo_X :=
  (fun a => if a = b then some (L, xs) else none, xb_tab adV xb_fV, fun a => if a = t then some (6, cs_pt) else none, xb_tab adK (xb_fK adV), fun k => if k = 0 then .ref t else if k = 1 then .int 1 else fm, adK)
theorem xb_apart {s : State} {H : Heap} {a b n m : Nat} {f g : Nat → Value} {A : Nat → Prop} {t1 t2 : FieldType} (h : va_T t1 a n f A s H) (h2 : va_T t2 b m g A s H) (e : a = b) : t1 = t2 ∧ Int32.ofNat n = Int32.ofNat m := by
  subst e
  obtain ⟨c1, p1, p2, -, -, p5, -⟩ := h
  obtain ⟨c2, q1, q2, -, -, q5, -⟩ := h2
  cases p1.symm.trans q1
  obtain ⟨k1, r1, x1, y1⟩ := p2.2
  obtain ⟨k2, r2, x2, y2⟩ := q2.2
  cases r1.symm.trans r2
  have e := y1.symm.trans y2
  cases e
  exact ⟨rfl, p5.symm.trans q5⟩
theorem xb_env {s : State} {b L : Nat} {xs : Nat → Int32} (hL : L ≤ 2048) (hts : ∀ w ∈ lw_tbl, w.before #[Value.ref b] s = true) (hX : va_X b L xs s s.heap) (hb : b < s.heap.size) (hg : (Jvm.Cond.and given_1 narrow_1).before #[Value.ref b] s = true) :
    ∃ (D : va_G) (X : xo_X), xe_E (xb_cy s) D X (fun q => s.heap.size ≤ q) s s.heap ∧ ∀ S, la_X X s.heap.size b L xs (fun _ => none, s.heap.size + 86, S) := by
  have hs : ∀ w ∈ xb_fl, w.before #[Value.ref b] s = true := flat_of_before _ hg
  have hA : ∀ a : Nat, a < s.heap.size → ¬ (fun q => s.heap.size ≤ q) a := fun a ha q => absurd ha (Nat.not_lt.mpr q)
  obtain ⟨D, hK⟩ := xb_K hts
  obtain ⟨adK, adV, ⟨hS, hinj⟩, hev⟩ := vk_Sof (N := 4) (tm := xb_tm) (len := xb_len) (byt := xb_byt) (A := fun q => s.heap.size ≤ q) (by decide) (fun i hi => hs _ (xb_ex i hi)) (fun i hi => hs _ (xb_co i hi)) (fun i hi => hs _ (xb_ar i hi)) (fun i hi => hs _ (xb_le i hi)) (fun i hi j hj => hs _ (xb_el i hi j hj)) (fun i j hi hj hn => (xb_ne i hi j hj hn).imp (hs _) (hs _)) hA
  obtain ⟨t, ht, hT⟩ := va_Tof (tm := xb_wp) (ty := .long) (N := 6) (f := fun j => .long (cs_pt j)) (A := fun q => s.heap.size ≤ q) (by decide) (hs _ xb_wa.1) (va_eqt (hs _ xb_wa.2)) (fun j hj => va_eqtl (hs _ (xb_we j hj))) hA
  obtain ⟨fm, hfm, hfr⟩ : ∃ fm : Value, (Term.static "jdk/internal/util/Preconditions" "SIOOBE_FORMATTER" "Ljava/util/function/BiFunction;").eval #[Value.ref b] s none [] s = some fm ∧ (fm = .null ∨ ∃ a, fm = .ref a) := by
    have h := hs _ xb_cs.2
    cases hv : (Term.static "jdk/internal/util/Preconditions" "SIOOBE_FORMATTER" "Ljava/util/function/BiFunction;").eval #[Value.ref b] s none [] s with
    | none => simp [Cond.before, Cond.holds, Cond.value, hv] at h
    | some w =>
      simp only [Cond.before, Cond.holds, Cond.value, hv] at h
      cases w with
      | null => exact ⟨_, rfl, Or.inl rfl⟩
      | ref t => exact ⟨_, rfl, Or.inr ⟨t, rfl⟩⟩
      | _ => simp at h
  have hXT : va_T .int b L (fun j => .int (xs j)) (fun q => s.heap.size ≤ q) s s.heap := by
    obtain ⟨scr, h1, h2, h3, h4, h5⟩ := hX
    exact ⟨scr, h1, h2, h3, by omega, by rw [h4], h5, hA b hb⟩
  have hV : ∀ i, i < 4 → va_T .byte (adV i) (xb_tx.getD i []).length (fun j => .int (nI ((xb_tx.getD i []).getD j 0))) (fun q => s.heap.size ≤ q) s s.heap := fun i hi => by
    have h := (hS i hi).2.2.2
    rw [xb_ln i hi] at h
    have e : (fun j => Value.int ((xb_byt.getD i []).getD j 0)) = fun j => Value.int (nI ((xb_tx.getD i []).getD j 0)) := funext fun j => by rw [xb_byte hi]
    rw [e] at h
    exact h
  have hVi : ∀ i j, i < 4 → j < 4 → adV i = adV j → i = j := fun i j hi hj e => xb_lne i hi j hj (xb_apart (hS i hi).2.2.2 (hS j hj).2.2.2 e).2
  have lt : ∀ {ty : FieldType} {a n : Nat} {f : Nat → Value}, va_T ty a n f (fun q => s.heap.size ≤ q) s s.heap → a < s.heap.size := fun h => by
    obtain ⟨c, h1, -⟩ := h
    exact (Array.getElem?_eq_some_iff.mp h1).1
  have ltK : ∀ i, i < 4 → adK i < s.heap.size := fun i hi => by
    obtain ⟨c, h1, -⟩ := (hS i hi).1
    exact (Array.getElem?_eq_some_iff.mp h1).1
  refine ⟨D, xb_X b L xs adK adV t fm, ⟨hK, ⟨xb_w hts 210 xb_t1.2, xb_w hts 121 xb_t1.1⟩, xb_w hts 102 xb_t2.1, xb_w hts 116 xb_t2.2, ?_, ?_, ?_, ?_, ?_, ?_, ?_, ?_, ?_, ?_, ?_⟩, fun S => ⟨?_, fun σ => ?_, fun σ => ?_⟩⟩
  · intro a n f e
    have e : (if a = b then some (L, xs) else none) = some (n, f) := e
    split at e
    · rename_i h
      cases e
      rw [h]
      exact hXT
    · cases e
  · intro a n f e
    obtain ⟨i, hi, e1, e2⟩ := xb_inv (ad := adV) (f := xb_fV) e
    cases e2
    rw [e1]
    exact hV i hi
  · intro a n f e
    have e : (if a = t then some (6, cs_pt) else none) = some (n, f) := e
    split at e
    · rename_i h
      cases e
      rw [h]
      exact hT
    · cases e
  · intro a o e
    obtain ⟨i, hi, e1, e2⟩ := xb_inv (ad := adK) (f := xb_fK adV) e
    subst e1 e2
    exact ⟨rfl, (hS i hi).1, (hS i hi).2.2.1, (hS i hi).2.1⟩
  · exact va_Zof (xb_w hts 716 xb_t3.1) (xb_w hts 82 xb_t4.1) ht hA
  · exact va_Zof (xb_w hts 363 xb_t3.2.1) (xb_w hts 84 xb_t4.2.1) (va_eqt (hs _ xb_cs.1)) hA
  · exact va_Zof (xb_w hts 380 xb_t3.2.2) (xb_w hts 86 xb_t4.2.2) hfm hA
  · exact vk_R.of (xb_w hts 349 xb_t5.1) (hev 0 (by decide))
  · exact vk_R.of (xb_w hts 407 xb_t5.2.1) (hev 1 (by decide))
  · exact vk_R.of (xb_w hts 412 xb_t5.2.2.1) (hev 2 (by decide))
  · exact vk_R.of (xb_w hts 413 xb_t5.2.2.2) (hev 3 (by decide))
  · exact ⟨if_pos rfl, hb, rfl, hL⟩
  · have key : ∀ a, a < s.heap.size → (md_put (s.heap.size + 63) σ (fun _ => none, s.heap.size + 86, S)).1 a = none := fun a ha => by
      show (if s.heap.size + 63 ≤ a ∧ a < s.heap.size + 63 + 23 then some (md_cell (s.heap.size + 63) σ (a - (s.heap.size + 63))) else none) = none
      rw [if_neg (by omega)]
    have tx : ∀ i, i < 4 → (xb_tx.getD i []).length < 100 ∧ (∀ c ∈ xb_tx.getD i [], c < 128) → cl_tx (xb_X b L xs adK adV t fm) s.heap.size (md_put (s.heap.size + 63) σ (fun _ => none, s.heap.size + 86, S)) i (xb_tx.getD i []) := fun i hi hl => by
      refine ⟨⟨Or.inl (ltK i hi), key _ (ltK i hi)⟩, fun j => if j = 0 then .ref (adV i) else .int 0, adV i, xb_at (ad := adK) (f := xb_fK adV) hinj hi, rfl, rfl, ⟨Or.inl (lt (hV i hi)), key _ (lt (hV i hi)), ?_⟩, xb_at (ad := adV) (f := xb_fV) hVi hi, hl⟩
      show (if adV i = b then some (L, xs) else none) = none
      rw [if_neg fun e => by have := (xb_apart (hV i hi) hXT e).1; cases this]
    exact ⟨⟨rfl, hfr⟩, tx 0 (by decide) (by decide), tx 1 (by decide) (by decide), tx 2 (by decide) (by decide), tx 3 (by decide) (by decide)⟩
  · refine ⟨t, rfl, ⟨Or.inl (lt hT), ?_⟩, if_pos rfl⟩
    have ha := lt hT
    show (if s.heap.size + 63 ≤ t ∧ t < s.heap.size + 63 + 23 then some (md_cell (s.heap.size + 63) σ (t - (s.heap.size + 63))) else none) = none
    rw [if_neg (by omega)]
