/-! THE ENVIRONMENT: what a method's start says of the machine; the world: abstract cells over the heap -/
def xe_tys (cy : FieldType → ClassId) : List (ClassId × FieldType) := [(cy .int, .int), (cy .byte, .byte), (cy .long, .long), (cy .boolean, .boolean), (cy (.object "DilemmaProver$Equivalence"), .object "DilemmaProver$Equivalence"), (cy (.array .int), .array .int)]
def xe_n1 : Cond := .methodLinkNest "DilemmaProver" 9 ⟨"DilemmaProver$Text", "<init>", "()V"⟩ "DilemmaProver"
def xe_n2 : Cond := .methodLinkNest "DilemmaProver" 18 ⟨"DilemmaProver$Circuit", "<init>", "()V"⟩ "DilemmaProver"
def xe_AA (U : State) : Prop := (Cond.arrayOver (.array .int)).before #[] U = true
theorem xe_AA.use {A : Array Value} {U : State} (h : xe_AA U) : (Cond.arrayOver (.array .int)).before A U = true := h
theorem xe_AA.moved {u U : State} (hvm : u.vm.Alike U.vm) (h : xe_AA u) : xe_AA U := Jvm.Stand.arrayOver_alikeB hvm h
def xe_E (cy : FieldType → ClassId) (D : va_G) (X : xo_X) (A : Nat → Prop) (U : State) (H : Heap) : Prop :=
  va_K D vwCl (xe_tys cy) U ∧ (va_AO "DilemmaProver$Equivalence" U ∧ xe_AA U) ∧ va_Nw xe_n1 U ∧ va_Nw xe_n2 U ∧
  (∀ a n f, X.1 a = some (n, f) → va_T .int a n (fun j => .int (f j)) A U H) ∧
  (∀ a n f, X.2.1 a = some (n, f) → va_T .byte a n (fun j => .int (f j)) A U H) ∧
  (∀ a n f, X.2.2.1 a = some (n, f) → va_T .long a n (fun j => .long (f j)) A U H) ∧
  (∀ a o, X.2.2.2.1 a = some o → o.1 = 8 ∧ va_O "java/lang/String" a A U H ∧ va_OF "java/lang/String" "value" "[B" (o.2 0) a A U H ∧ va_OF "java/lang/String" "coder" "B" (o.2 1) a A U H) ∧
  va_Z "DilemmaProver$Table" "WORD_PATTERNS" "[J" (X.2.2.2.2.1 0) A U H ∧ va_Z "java/lang/String" "COMPACT_STRINGS" "Z" (X.2.2.2.2.1 1) A U H ∧ va_Z "jdk/internal/util/Preconditions" "SIOOBE_FORMATTER" "Ljava/util/function/BiFunction;" (X.2.2.2.2.1 2) A U H ∧
  vk_R "DilemmaProver$Reader" 125 "true" (X.2.2.2.2.2 0) U ∧ vk_R "DilemmaProver$Reader" 135 "false" (X.2.2.2.2.2 1) U ∧ vk_R "DilemmaProver$Reader" 137 "->" (X.2.2.2.2.2 2) U ∧ vk_R "DilemmaProver$Reader" 139 "<->" (X.2.2.2.2.2 3) U
/-- to a callee's start: warmer tables, a heap that differs in A alone, a smaller area -/
theorem xe_E.go {cy : FieldType → ClassId} {D : va_G} {X : xo_X} {A B : Nat → Prop} {s U : State} {H H1 : Heap} (h : xe_E cy D X A s H) (hq : ∀ q : Nat, q < H.size → ¬ A q → H1[q]? = H[q]?) (hW : s.WarmedH U.vm) (hB : ∀ q, B q → A q) : xe_E cy D X B U H1 := by
  obtain ⟨h1, h2, h3, h4, h5, h6, h7, h8, h9, h10, h11, h12, h13, h14, h15⟩ := h
  have hv := hW.alike
  refine ⟨va_K.moved hv h1, ⟨va_AO.moved hv h2.1, xe_AA.moved hv h2.2⟩, va_Nw.warmM hW h3, va_Nw.warmM hW h4, fun a n f e => ((va_T.moved hv (h5 a n f e)).kept hq).narrow hB, fun a n f e => ((va_T.moved hv (h6 a n f e)).kept hq).narrow hB, fun a n f e => ((va_T.moved hv (h7 a n f e)).kept hq).narrow hB, fun a o e => ?_, ((va_Z.moved hv h9).kept hq).narrow hB, ((va_Z.moved hv h10).kept hq).narrow hB, ((va_Z.moved hv h11).kept hq).narrow hB, vk_R.warm hW h12, vk_R.warm hW h13, vk_R.warm hW h14, vk_R.warm hW h15⟩
  obtain ⟨e1, e2, e3, e4⟩ := h8 a o e
  exact ⟨e1, ((va_O.moved hv e2).kept hq).narrow hB, ((va_OF.moved hv e3).kept hq).narrow hB, ((va_OF.moved hv e4).kept hq).narrow hB⟩
theorem xe_E.same {cy : FieldType → ClassId} {D : va_G} {X : xo_X} {A : Nat → Prop} {s U : State} {H : Heap} (h : xe_E cy D X A s H) (hv : U.vm = s.vm) : xe_E cy D X A U H := by
  refine h.go (fun _ _ _ => rfl) ?_ (fun _ q => q)
  rw [hv]
  exact State.WarmedH.refl s
/-- a cell as the kit has it -/
def xo_E (cy : FieldType → ClassId) (c : xo_C) : va_E := match c with
  | .inl o => .inr (o.1, (List.range (xp_N o.1)).map o.2)
  | .inr a => .inl (cy a.1, a.2)
def xo_W (cy : FieldType → ClassId) (h : Nat → Option xo_C) (ws : va_W) : Prop := ∀ (a : Nat) (c : xo_C), h a = some c → ∃ k : Nat, ws[k]? = some (a, xo_E cy c)
theorem xo_W.set {cy : FieldType → ClassId} {h : Nat → Option xo_C} {ws : va_W} {A : Nat → Prop} {a k : Nat} {e0 : va_E} {c : xo_C} (hw : xo_W cy h ws) (hD : va_D A ws) (hk : ws[k]? = some (a, e0)) : xo_W cy (va_up h a (some c)) (ws.set k (a, xo_E cy c)) := by
  intro b c' hb
  by_cases e : b = a
  · subst e
    rw [va_up_self] at hb
    cases hb
    exact ⟨k, by rw [List.getElem?_set_self (List.getElem?_eq_some_iff.mp hk).1]⟩
  · rw [va_up_ne _ _ e] at hb
    obtain ⟨j, hj⟩ := hw b c' hb
    refine ⟨j, ?_⟩
    rw [List.getElem?_set_ne (fun q => e ?_)]
    · exact hj
    · subst q
      rw [hk] at hj
      cases hj
      rfl
theorem xo_W.push {cy : FieldType → ClassId} {h : Nat → Option xo_C} {ws : va_W} {a : Nat} {c : xo_C} (hw : xo_W cy h ws) : xo_W cy (va_up h a (some c)) (ws ++ [(a, xo_E cy c)]) := by
  intro b c' hb
  by_cases e : b = a
  · subst e
    rw [va_up_self] at hb
    cases hb
    exact ⟨ws.length, by simp⟩
  · rw [va_up_ne _ _ e] at hb
    obtain ⟨j, hj⟩ := hw b c' hb
    refine ⟨j, ?_⟩
    rw [List.getElem?_append_left (List.getElem?_eq_some_iff.mp hj).1]
    exact hj
/-- locals -/
def xo_lh (ls : Array Slot) (L : xo_L) : Prop := ls.size = L.length ∧ lv_wf ls ∧ ∀ (i : Nat) (v : Value), L[i]? = some (some v) → ls[i]? = some (.val v)
def xo_pr (L : xo_L) : List (Nat × Value) := (List.range L.length).filterMap fun i => match L[i]? with
  | some (some v) => some (i, v)
  | _ => none
theorem xo_pr_mem {L : xo_L} {i : Nat} {v : Value} : (i, v) ∈ xo_pr L ↔ L[i]? = some (some v) := by
  unfold xo_pr
  rw [List.mem_filterMap]
  constructor
  · rintro ⟨j, -, hj⟩
    split at hj
    · cases hj
      assumption
    · cases hj
  · intro h
    refine ⟨i, List.mem_range.mpr (List.getElem?_eq_some_iff.mp h).1, ?_⟩
    rw [h]
theorem xo_lh.has {ls : Array Slot} {L : xo_L} (h : xo_lh ls L) : lv_has ls L.length (xo_pr L) := ⟨h.1, h.2.1, fun q hq => h.2.2 q.1 q.2 (xo_pr_mem.mp hq)⟩
theorem xo_lh.at {ls : Array Slot} {L : xo_L} (h : xo_lh ls L) {k : Nat} {v : Value} (e : xo_ld L k = some v) : ls[k]? = some (.val v) := by
  unfold xo_ld at e
  split at e
  · cases e
    exact h.2.2 _ _ (by assumption)
  · cases e
theorem xo_lh.sto {ls' : Array Slot} {L : xo_L} {k : Nat} {v : Value} (hk : k < L.length) (hn : xo_nl L k = true) (h' : lv_has ls' L.length ((k, v) :: (xo_pr L).filter (fun q => !(q.1 == k) && !(q.1 + 1 == k && q.2.category == 2)))) : xo_lh ls' (L.set k (some v)) := by
  refine ⟨by rw [h'.1, List.length_set], h'.2.1, fun i w hi => ?_⟩
  by_cases e : i = k
  · subst e
    rw [List.getElem?_set_self hk] at hi
    cases hi
    exact h'.2.2 (i, v) List.mem_cons_self
  · rw [List.getElem?_set_ne (Ne.symm e)] at hi
    refine h'.2.2 (i, w) (List.mem_cons_of_mem _ (List.mem_filter.mpr ⟨xo_pr_mem.mpr hi, ?_⟩))
    have hc : ¬ (i + 1 = k ∧ w.category = 2) := by
      rintro ⟨rfl, hc⟩
      simp only [xo_nl, hi, beq_iff_eq] at hn
      omega
    simp [e]
    by_cases h1 : i + 1 = k
    · exact Or.inr (fun h2 => hc ⟨h1, h2⟩)
    · exact Or.inl h1
theorem xo_lh.stl {ls' : Array Slot} {L : xo_L} {k : Nat} {v : Value} (hk : k + 1 < L.length) (hn : xo_nl L k = true) (h' : lv_has ls' L.length ((k, v) :: (xo_pr L).filter (fun q => !(q.1 == k) && (!(q.1 == k + 1) && !(q.1 + 1 == k && q.2.category == 2))))) : xo_lh ls' ((L.set k (some v)).set (k + 1) none) := by
  refine ⟨by rw [h'.1, List.length_set, List.length_set], h'.2.1, fun i w hi => ?_⟩
  by_cases e1 : i = k + 1
  · subst e1
    rw [List.getElem?_set_self (by rw [List.length_set]; exact hk)] at hi
    cases hi
  · rw [List.getElem?_set_ne (Ne.symm e1)] at hi
    by_cases e : i = k
    · subst e
      rw [List.getElem?_set_self (by omega)] at hi
      cases hi
      exact h'.2.2 (i, v) List.mem_cons_self
    · rw [List.getElem?_set_ne (Ne.symm e)] at hi
      refine h'.2.2 (i, w) (List.mem_cons_of_mem _ (List.mem_filter.mpr ⟨xo_pr_mem.mpr hi, ?_⟩))
      have hc : ¬ (i + 1 = k ∧ w.category = 2) := by
        rintro ⟨rfl, hc⟩
        simp only [xo_nl, hi, beq_iff_eq] at hn
        omega
      simp [e, e1]
      by_cases h1 : i + 1 = k
      · exact Or.inr (fun h2 => hc ⟨h1, h2⟩)
      · exact Or.inl h1
theorem xo_sl_args : ∀ (vs : List Value) (i k : Nat) (v : Value), (xo_sl vs)[i]? = some (some v) → (k + i, v) ∈ lv_args k vs := by
  intro vs
  induction vs with
  | nil => intro i k v h; simp [xo_sl] at h
  | cons w vs ih =>
    intro i k v h
    unfold xo_sl at h
    unfold lv_args
    by_cases hc : w.category = 2
    · rw [if_pos hc] at h
      match i, h with
      | 0, h => simp at h; subst h; simp
      | 1, h => simp at h
      | i + 2, h =>
        simp at h
        have := ih i (k + 2) v h
        rw [hc]
        rw [show k + (i + 2) = k + 2 + i by omega]
        simp
        exact Or.inr this
    · rw [if_neg hc] at h
      have hc1 : w.category = 1 := (lv_cat w).resolve_right hc
      match i, h with
      | 0, h => simp at h; subst h; simp
      | i + 1, h =>
        simp at h
        have := ih i (k + 1) v h
        rw [hc1]
        rw [show k + (i + 1) = k + 1 + i by omega]
        simp
        exact Or.inr this
theorem xo_sl_len (vs : List Value) : (xo_sl vs).length = (lg_sl vs).length := by
  induction vs with
  | nil => rfl
  | cons v vs ih =>
    unfold xo_sl
    by_cases hc : v.category = 2
    · simp [lg_sl, hc] at ih ⊢
      exact ih
    · simp [lg_sl, hc] at ih ⊢
      exact ih
theorem xo_lh_entry {vs : List Value} {n : Nat} (h : (xo_sl vs).length ≤ n) : xo_lh ((lg_sl vs ++ List.replicate (n - (lg_sl vs).length) Slot.unset).toArray) (xo_ent n vs) := by
  have hl := lv_entry vs (n := n) (by rw [← xo_sl_len]; exact h)
  refine ⟨?_, hl.2.1, fun i v hi => ?_⟩
  · rw [hl.1]
    simp [xo_ent]
    omega
  · unfold xo_ent at hi
    by_cases hlt : i < (xo_sl vs).length
    · rw [List.getElem?_append_left hlt] at hi
      have := xo_sl_args vs i 0 v hi
      rw [Nat.zero_add] at this
      exact hl.2.2 (i, v) this
    · rw [List.getElem?_append_right (by omega)] at hi
      rw [List.getElem?_replicate] at hi
      split at hi <;> simp at hi
/-- what is known all along a method: the machine, its code and tables, its area -/
def xo_cx (cy : FieldType → ClassId) (D : va_G) (X : xo_X) (p : Program) (R : Room) (s : State) (m : MethodId) (args : Array Value) (meth : Method) (c : Code) (mid : Nat) (A : Nat → Prop) : Prop :=
  p.tables.exec = Jvm.exec ∧ c.code = xp_code mid ∧ c.maxLocals = xp_ml mid ∧ s.vm.findClass (xp_R (xp_own mid)) = some m.cls ∧ (∀ w ∈ xp_tw, w.before args s = true) ∧ (∀ q, s.heap.size ≤ q → A q) ∧ xe_E cy D X A s s.heap ∧ ((xp_nm mid).name = "<init>" → meth.name = "<init>") ∧ 1 ≤ R.frames ∧ 64 ≤ R.locals
/-- the world at a point: the cells g, the heap H -/
def xo_wd (cy : FieldType → ClassId) (D : va_G) (s : State) (A : Nat → Prop) (g : xo_G) (H : Heap) (locs : List Loc) (cells : Nat) : Prop :=
  ∃ ws : va_W, xo_W cy g.1 ws ∧ va_P D vwCl ws H ∧ va_D A ws ∧ va_S A s.heap H locs ∧ H.size = g.2.1 ∧ s.heap.size + cells = g.2.1
theorem xp_find {α : Type} {l : List α} {f : α → Bool} {g : α → Nat} {q : Nat} (h : (l.find? f).map g = some q) : ∃ x, x ∈ l ∧ f x = true ∧ g x = q := by
  cases e : l.find? f with
  | none => rw [e] at h; cases h
  | some x =>
    rw [e] at h
    exact ⟨x, List.mem_of_find?_eq_some e, List.find?_some e, Option.some.inj h⟩
theorem xp_find2 {α β : Type} {l : List α} {f : α → Bool} {g : α → β} {q : β} (h : (l.find? f).map g = some q) : ∃ x, x ∈ l ∧ f x = true ∧ g x = q := by
  cases e : l.find? f with
  | none => rw [e] at h; cases h
  | some x =>
    rw [e] at h
    exact ⟨x, List.mem_of_find?_eq_some e, List.find?_some e, Option.some.inj h⟩
theorem xp_field_spec {own k ci j : Nat} (h : xp_field own k = some (ci, j)) : ci < 8 ∧ j < xp_N ci ∧ (xp_T ci j).1 = xp_R ci ∧ Cond.fieldLink (xp_R own) k (xp_R ci) (xp_T ci j).2.1 (xp_T ci j).2.2.1 ∈ xp_tw := by
  obtain ⟨⟨a, b, c, d, e⟩, h1, h2, h3⟩ := xp_find2 h
  simp only [Bool.and_eq_true, beq_iff_eq] at h2
  simp only [Prod.mk.injEq] at h3
  obtain ⟨rfl, rfl⟩ := h2
  obtain ⟨rfl, rfl⟩ := h3
  have h4 := xf_fl h1
  simp only [xf_fk, Bool.and_eq_true, decide_eq_true_eq, beq_iff_eq] at h4
  exact ⟨h4.1.1.2, h4.1.2, h4.2, xf_in h4.1.1.1⟩
theorem xp_u {ci : Nat} (h : ci < 8) : ∀ w ∈ u_ws (xp_R ci) (xp_T ci) (xp_N ci), w ∈ xp_tw := by
  intro w hw
  obtain ⟨k, hk, rfl⟩ := List.mem_map.mp hw
  have hk := List.mem_range.mp hk
  by_cases h7 : ci = 7
  · subst h7
    exact xf_in (xf_u7 k hk)
  · exact xf_in (xf_u6 ci (by omega) k hk)
theorem xo_fit_ok {ty : FieldType} {v : Value} (h : xo_fit ty v = true) : narrow ty v = v ∧ fits ty v = true := by
  unfold xo_fit at h
  split at h
  · exact ⟨rfl, rfl⟩
  · simp at h
    rcases h with rfl | rfl <;> exact ⟨rfl, rfl⟩
  · exact ⟨rfl, rfl⟩
  · exact ⟨rfl, rfl⟩
  · exact ⟨rfl, rfl⟩
  · cases h
theorem xo_out_in {i : Int32} {n : Nat} (h : xo_out i n = false) : vp_in i n := by
  unfold xo_out at h
  unfold vp_in
  simp only [Bool.or_eq_false_iff, decide_eq_false_iff_not] at h
  exact fun q => q.elim h.1 h.2
theorem xo_jmp_spec {pc : Nat} {off : Int} {L : xo_L} {st : List Value} {g : xo_G} {k : xo_K} (h : xo_jmp pc off L st g = some k) : k.2 = (L, st, g) ∧ (pc : Int) + off = (k.1 : Int) := by
  unfold xo_jmp at h
  split at h
  · cases h
    exact ⟨rfl, by rw [Int.toNat_of_nonneg (by assumption)]⟩
  · cases h
theorem xo_fs {F : Nat → Value} {n j : Nat} (h : j < n) : ((List.range n).map F)[j]? = some (F j) := by simp [h]
theorem xo_fset {F : Nat → Value} {n j : Nat} {v : Value} : ((List.range n).map F).set j v = (List.range n).map (va_up F j v) := by
  apply List.ext_getElem?
  intro i
  by_cases hi : i < n
  · rw [xo_fs hi]
    by_cases e : i = j
    · subst e
      rw [va_up_self, List.getElem?_set_self (by simpa using hi)]
    · rw [va_up_ne _ _ e, List.getElem?_set_ne (Ne.symm e), xo_fs hi]
  · rw [List.getElem?_eq_none (by simpa using hi), List.getElem?_eq_none (by simpa using hi)]
