/-! ONE INSTRUCTION of the abstract machine is the machine's -/
theorem xo_ld_some {L : xo_L} {k : Nat} {v : Value} (e : xo_ld L k = some v) : L[k]? = some (some v) := by
  unfold xo_ld at e
  split at e
  · cases e
    assumption
  · cases e
section XS
variable {cy : FieldType → ClassId} {D : va_G} {X : xo_X} {p : Program} {l : Launch} {e : Env} {R : Room} {s : State} {m : MethodId} {args : Array Value} {below : List Frame} {meth : Method} {c : Code} {mid : Nat} {A : Nat → Prop}
theorem xo_br1 (hx : p.tables.exec = Jvm.exec) (hb : c.code = xp_code mid) {cnd : ClassFile.Cond} {off : Int} {pc : Nat} {x : Int32} {L : xo_L} {r : List Value} {g : xo_G} {k : xo_K} {H : Heap} {locs : List Loc} {cells slots : Nat} {Q : State → Prop} {ls : Array Slot} (hd : decode (xp_code mid) pc = .ok (.ifCond cnd off, 3)) (hs : xo_bra pc off (xo_cnd cnd x 0) L r g = some k)
    (kk : k.2 = (L, r, g) → W p l e R s m args below meth c H locs cells slots Q (F0 m k.1 ls r)) : W p l e R s m args below meth c H locs cells slots Q (F0 m pc ls (.int x :: r)) := by
  unfold xo_bra at hs
  split at hs
  · rename_i h0
    have e2 : (pc : Int) + off = ((((pc : Int) + off).toNat : Nat) : Int) := (Int.toNat_of_nonneg h0).symm
    have kt : xo_cnd cnd x 0 = true → W p l e R s m args below meth c H locs cells slots Q (F0 m (((pc : Int) + off).toNat) ls r) := fun h => by
      rw [h] at hs
      cases hs
      exact kk rfl
    have kf : xo_cnd cnd x 0 = false → W p l e R s m args below meth c H locs cells slots Q (F0 m (pc + 3) ls r) := fun h => by
      rw [h] at hs
      cases hs
      exact kk rfl
    cases cnd
    · exact lv_if_eq hx hb hd e2 (fun h => kt (by simp [xo_cnd, h])) (fun h => kf (by simp [xo_cnd, h]))
    · exact lv_if_ne hx hb hd e2 (fun h => kt (by simp [xo_cnd, h])) (fun h => kf (by simp [xo_cnd, h]))
    · exact lv_if_lt hx hb hd e2 (fun h => kt (decide_eq_true h)) (fun h => kf (decide_eq_false h))
    · exact lv_if_ge hx hb hd e2 (fun h => kt (decide_eq_true h)) (fun h => kf (decide_eq_false h))
    · exact lv_if_gt hx hb hd e2 (fun h => kt (decide_eq_true h)) (fun h => kf (decide_eq_false h))
    · exact lv_if_le hx hb hd e2 (fun h => kt (decide_eq_true h)) (fun h => kf (decide_eq_false h))
  · cases hs
theorem xo_br2 (hx : p.tables.exec = Jvm.exec) (hb : c.code = xp_code mid) {cnd : ClassFile.Cond} {off : Int} {pc : Nat} {x y : Int32} {L : xo_L} {r : List Value} {g : xo_G} {k : xo_K} {H : Heap} {locs : List Loc} {cells slots : Nat} {Q : State → Prop} {ls : Array Slot} (hd : decode (xp_code mid) pc = .ok (.if_icmp cnd off, 3)) (hs : xo_bra pc off (xo_cnd cnd x y) L r g = some k)
    (kk : k.2 = (L, r, g) → W p l e R s m args below meth c H locs cells slots Q (F0 m k.1 ls r)) : W p l e R s m args below meth c H locs cells slots Q (F0 m pc ls (.int y :: .int x :: r)) := by
  unfold xo_bra at hs
  split at hs
  · rename_i h0
    have e2 : (pc : Int) + off = ((((pc : Int) + off).toNat : Nat) : Int) := (Int.toNat_of_nonneg h0).symm
    have kt : xo_cnd cnd x y = true → W p l e R s m args below meth c H locs cells slots Q (F0 m (((pc : Int) + off).toNat) ls r) := fun h => by
      rw [h] at hs
      cases hs
      exact kk rfl
    have kf : xo_cnd cnd x y = false → W p l e R s m args below meth c H locs cells slots Q (F0 m (pc + 3) ls r) := fun h => by
      rw [h] at hs
      cases hs
      exact kk rfl
    cases cnd
    · exact lv_icmp_eq hx hb hd e2 (fun h => kt (by simp [xo_cnd, h])) (fun h => kf (by simp [xo_cnd, h]))
    · exact lv_icmp_ne hx hb hd e2 (fun h => kt (by simp [xo_cnd, h])) (fun h => kf (by simp [xo_cnd, h]))
    · exact lv_icmp_lt hx hb hd e2 (fun h => kt (decide_eq_true h)) (fun h => kf (decide_eq_false h))
    · exact lv_icmp_ge hx hb hd e2 (fun h => kt (decide_eq_true h)) (fun h => kf (decide_eq_false h))
    · exact lv_icmp_gt hx hb hd e2 (fun h => kt (decide_eq_true h)) (fun h => kf (decide_eq_false h))
    · exact lv_icmp_le hx hb hd e2 (fun h => kt (decide_eq_true h)) (fun h => kf (decide_eq_false h))
  · cases hs
theorem xo_nfw {r : List Value} {n : Nat} (h : (r.map fun v => v.category).sum ≤ 8) (hn : 64 ≤ n) : (r.map fun v => v.category).sum + (nativeFrameWords "java/lang/System" "arraycopy" 5 + 11) ≤ n := by
  have : nativeFrameWords "java/lang/System" "arraycopy" 5 + 11 ≤ 56 := by decide +kernel
  omega
theorem xo_sized {H : Heap} {locs : List Loc} {cells slots : Nat} {Q : State → Prop} {g : JFrame} (h : H.size ≤ s.heap.size + cells → W p l e R s m args below meth c H locs cells slots Q g) : W p l e R s m args below meth c H locs cells slots Q g :=
  fun T hT Xs => h (by rw [← hT]; exact Xs.same.2.2.1) T hT Xs
theorem xo_S_here {H : Heap} {locs : List Loc} (h : va_S A s.heap H locs) : va_S A H H locs := ⟨Nat.le_refl _, fun _ _ _ => rfl, h.2.2⟩
theorem xo_S_on {H H1 : Heap} {locs locs1 : List Loc} (h : va_S A s.heap H locs) (h1 : va_S A H H1 locs1) : va_S A s.heap H1 locs1 :=
  ⟨Nat.le_trans h.1 h1.1, fun q g1 g2 => (h1.2.1 q (Nat.lt_of_lt_of_le g1 h.1) g2).trans (h.2.1 q g1 g2), h1.2.2⟩
section XR
variable {pc : Nat} {r : List Value} {g : xo_G} {H : Heap} {locs : List Loc} {cells slots : Nat} {Q : State → Prop} {ls : Array Slot} {ws : va_W} {a q n : Nat} {i : Int32}
theorem xo_aald (hx : p.tables.exec = Jvm.exec) (hb : c.code = xp_code mid) (hK : va_K D vwCl (xe_tys cy) s) (w2 : va_P D vwCl ws H) {f : Nat → Option Nat} (hq : ws[q]? = some (a, xo_E cy (.inr (.array .int, (n, .inr (.inr (.inr (.inr f)))))))) (hin : vp_in i n) (hd : decode (xp_code mid) pc = .ok (.aaload, 1)) (kk : W p l e R s m args below meth c H locs cells slots Q (F0 m (pc + 1) ls (va_rf (f i.toNatClampNeg) :: r))) : W p l e R s m args below meth c H locs cells slots Q (F0 m pc ls (.int i :: .ref a :: r)) := by
  have hlt : i.toNatClampNeg < n := Nat.not_le.mp fun z => hin (Or.inr z)
  exact W.aald (v := va_rf (f i.toNatClampNeg)) (ty := .array .int) hx hb (w2 q _ hq) ((hK.2 5 _ rfl).1 n (fun j => va_rf (f j))) rfl (fun z => by cases z) (by show ¬ (i < 0 ∨ (arrV _ _ _).slots.size ≤ _); rw [arrV_size]; exact hin) (by show (arrV _ _ _).slots[_]? = _; rw [arrV_read _ _ hlt]) rfl rfl hd kk
theorem xo_iast (hx : p.tables.exec = Jvm.exec) (hb : c.code = xp_code mid) (hK : va_K D vwCl (xe_tys cy) s) (w1 : xo_W cy g.1 ws) (w2 : va_P D vwCl ws H) (w3 : va_D A ws) (w4 : va_S A s.heap H locs) (w5 : H.size = g.2.1) (w6 : s.heap.size + cells = g.2.1) {f : Nat → Int32} {x : Int32} (hq : ws[q]? = some (a, xo_E cy (.inr (.int, (n, .inl f))))) (hin : vp_in i n) (hd : decode (xp_code mid) pc = .ok (.iastore, 1)) (kk : ∀ (H1 : Heap) (locs1 : List Loc), xo_wd cy D s A (xo_set g a (.inr (.int, (n, .inl (upd f i.toNatClampNeg x))))) H1 locs1 cells → W p l e R s m args below meth c H1 locs1 cells slots Q (F0 m (pc + 1) ls r)) : W p l e R s m args below meth c H locs cells slots Q (F0 m pc ls (.int x :: .int i :: .ref a :: r)) :=
  va_iast hx hb hK w2 w3 (xo_S_here w4) q 0 hq rfl hin hd fun H1 locs1 hP hD hS => xo_sized fun hz => kk H1 locs1 ⟨_, w1.set (c := .inr (.int, (n, .inl (upd f i.toNatClampNeg x)))) w3 hq, hP, hD, xo_S_on w4 hS, by have := hS.1; show H1.size = g.2.1; omega, w6⟩
theorem xo_bast (hx : p.tables.exec = Jvm.exec) (hb : c.code = xp_code mid) (hK : va_K D vwCl (xe_tys cy) s) (w1 : xo_W cy g.1 ws) (w2 : va_P D vwCl ws H) (w3 : va_D A ws) (w4 : va_S A s.heap H locs) (w5 : H.size = g.2.1) (w6 : s.heap.size + cells = g.2.1) {f : Nat → Int32} {x : Int32} (hq : ws[q]? = some (a, xo_E cy (.inr (.byte, (n, .inl f))))) (hin : vp_in i n) (hd : decode (xp_code mid) pc = .ok (.bastore, 1)) (kk : ∀ (H1 : Heap) (locs1 : List Loc), xo_wd cy D s A (xo_set g a (.inr (.byte, (n, .inl (upd f i.toNatClampNeg (vp_nar .byte x)))))) H1 locs1 cells → W p l e R s m args below meth c H1 locs1 cells slots Q (F0 m (pc + 1) ls r)) : W p l e R s m args below meth c H locs cells slots Q (F0 m pc ls (.int x :: .int i :: .ref a :: r)) :=
  va_bast hx hb hK w2 w3 (xo_S_here w4) q 1 hq rfl hin hd fun H1 locs1 hP hD hS => xo_sized fun hz => kk H1 locs1 ⟨_, w1.set (c := .inr (.byte, (n, .inl (upd f i.toNatClampNeg (vp_nar .byte x))))) w3 hq, hP, hD, xo_S_on w4 hS, by have := hS.1; show H1.size = g.2.1; omega, w6⟩
theorem xo_zast (hx : p.tables.exec = Jvm.exec) (hb : c.code = xp_code mid) (hK : va_K D vwCl (xe_tys cy) s) (w1 : xo_W cy g.1 ws) (w2 : va_P D vwCl ws H) (w3 : va_D A ws) (w4 : va_S A s.heap H locs) (w5 : H.size = g.2.1) (w6 : s.heap.size + cells = g.2.1) {f : Nat → Int32} {x : Int32} (hq : ws[q]? = some (a, xo_E cy (.inr (.boolean, (n, .inl f))))) (hin : vp_in i n) (hd : decode (xp_code mid) pc = .ok (.bastore, 1)) (kk : ∀ (H1 : Heap) (locs1 : List Loc), xo_wd cy D s A (xo_set g a (.inr (.boolean, (n, .inl (upd f i.toNatClampNeg (vp_nar .boolean x)))))) H1 locs1 cells → W p l e R s m args below meth c H1 locs1 cells slots Q (F0 m (pc + 1) ls r)) : W p l e R s m args below meth c H locs cells slots Q (F0 m pc ls (.int x :: .int i :: .ref a :: r)) :=
  va_zast hx hb hK w2 w3 (xo_S_here w4) q 3 hq rfl hin hd fun H1 locs1 hP hD hS => xo_sized fun hz => kk H1 locs1 ⟨_, w1.set (c := .inr (.boolean, (n, .inl (upd f i.toNatClampNeg (vp_nar .boolean x))))) w3 hq, hP, hD, xo_S_on w4 hS, by have := hS.1; show H1.size = g.2.1; omega, w6⟩
theorem xo_last (hx : p.tables.exec = Jvm.exec) (hb : c.code = xp_code mid) (hK : va_K D vwCl (xe_tys cy) s) (w1 : xo_W cy g.1 ws) (w2 : va_P D vwCl ws H) (w3 : va_D A ws) (w4 : va_S A s.heap H locs) (w5 : H.size = g.2.1) (w6 : s.heap.size + cells = g.2.1) {f : Nat → Int64} {x : Int64} (hq : ws[q]? = some (a, xo_E cy (.inr (.long, (n, .inr (.inl f)))))) (hin : vp_in i n) (hd : decode (xp_code mid) pc = .ok (.lastore, 1)) (kk : ∀ (H1 : Heap) (locs1 : List Loc), xo_wd cy D s A (xo_set g a (.inr (.long, (n, .inr (.inl (vp_updL f i.toNatClampNeg x)))))) H1 locs1 cells → W p l e R s m args below meth c H1 locs1 cells slots Q (F0 m (pc + 1) ls r)) : W p l e R s m args below meth c H locs cells slots Q (F0 m pc ls (.long x :: .int i :: .ref a :: r)) :=
  va_last hx hb hK w2 w3 (xo_S_here w4) q 2 hq rfl hin hd fun H1 locs1 hP hD hS => xo_sized fun hz => kk H1 locs1 ⟨_, w1.set (c := .inr (.long, (n, .inr (.inl (vp_updL f i.toNatClampNeg x))))) w3 hq, hP, hD, xo_S_on w4 hS, by have := hS.1; show H1.size = g.2.1; omega, w6⟩
theorem xo_aast (hx : p.tables.exec = Jvm.exec) (hb : c.code = xp_code mid) (hK : va_K D vwCl (xe_tys cy) s) (w1 : xo_W cy g.1 ws) (w2 : va_P D vwCl ws H) (w3 : va_D A ws) (w4 : va_S A s.heap H locs) (w5 : H.size = g.2.1) (w6 : s.heap.size + cells = g.2.1) {f : Nat → Option Nat} {x q2 : Nat} {F : Nat → Value} (hq : ws[q]? = some (a, xo_E cy (.inr (.object "DilemmaProver$Equivalence", (n, .inr (.inr (.inr (.inr f)))))))) (hq2 : ws[q2]? = some (x, xo_E cy (.inl (1, F)))) (hin : vp_in i n) (hd : decode (xp_code mid) pc = .ok (.aastore, 1)) (kk : ∀ (H1 : Heap) (locs1 : List Loc), xo_wd cy D s A (xo_set g a (.inr (.object "DilemmaProver$Equivalence", (n, .inr (.inr (.inr (.inr (va_up f i.toNatClampNeg (some x)))))))))  H1 locs1 cells → W p l e R s m args below meth c H1 locs1 cells slots Q (F0 m (pc + 1) ls r)) : W p l e R s m args below meth c H locs cells slots Q (F0 m pc ls (.ref x :: .int i :: .ref a :: r)) :=
  va_astq (r := (RX1, TX1, 4)) hx hb hK w2 w3 (xo_S_here w4) q 4 q2 1 hq rfl hq2 rfl hin hd fun H1 locs1 hP hD hS => xo_sized fun hz => kk H1 locs1 ⟨_, w1.set (c := .inr (.object "DilemmaProver$Equivalence", (n, .inr (.inr (.inr (.inr (va_up f i.toNatClampNeg (some x)))))))) w3 hq, hP, hD, xo_S_on w4 hS, by have := hS.1; show H1.size = g.2.1; omega, w6⟩
theorem xo_acopy (hx : p.tables.exec = Jvm.exec) (hb : c.code = xp_code mid) (hml : c.maxLocals = ls.size) {own : String} {index : Nat} (hown : s.vm.findClass own = some m.cls) (hlink : (Cond.methodLink own index arraycopyName).before args s = true) (hnat : (Cond.native arraycopyName).before args s = true) (hstat : (Cond.static arraycopyName).before args s = true) (hini : (Cond.initialized "java/lang/System").before args s = true) (hK : va_K D vwCl (xe_tys cy) s) (w1 : xo_W cy g.1 ws) (w2 : va_P D vwCl ws H) (w3 : va_D A ws) (w4 : va_S A s.heap H locs) (w5 : H.size = g.2.1) (w6 : s.heap.size + cells = g.2.1) {f h : Nat → Int32} {b q2 n0 n1 : Nat} {sp dp k : Int32} (hq : ws[q]? = some (b, xo_E cy (.inr (.int, (n0, .inl f))))) (hq2 : ws[q2]? = some (a, xo_E cy (.inr (.int, (n1, .inl h))))) (h1 : ¬ sp < 0) (h2 : ¬ dp < 0) (h3 : ¬ k < 0) (h4 : sp.toNatClampNeg + k.toNatClampNeg ≤ n0) (h5 : dp.toNatClampNeg + k.toNatClampNeg ≤ n1) (hfr : 1 ≤ R.frames) (hlo : (r.map fun v => v.category).sum + (nativeFrameWords "java/lang/System" "arraycopy" 5 + 11) ≤ R.locals) (hd : decode (xp_code mid) pc = .ok (.invokestatic index, 3)) (kk : ∀ (H1 : Heap) (locs1 : List Loc), xo_wd cy D s A (xo_set g a (.inr (.int, (n1, .inl (va_cpy f h sp.toNatClampNeg dp.toNatClampNeg k.toNatClampNeg))))) H1 locs1 cells → W p l e R s m args below meth c H1 locs1 cells slots Q (F0 m (pc + 3) ls r)) : W p l e R s m args below meth c H locs cells slots Q (F0 m pc ls (.int k :: .int dp :: .ref a :: .int sp :: .ref b :: r)) :=
  va_copyi hx hb hml hown hlink hnat hstat hini hK w2 w3 (xo_S_here w4) q q2 0 0 hq hq2 rfl rfl rfl h1 h2 h3 h4 h5 (fun _ _ => rfl) hfr hlo hd fun H1 locs1 hP hD hS => xo_sized fun hz => kk H1 locs1 ⟨_, w1.set (c := .inr (.int, (n1, .inl (va_cpy f h sp.toNatClampNeg dp.toNatClampNeg k.toNatClampNeg)))) w3 hq2, hP, hD, xo_S_on w4 hS, by have := hS.1; show H1.size = g.2.1; omega, w6⟩
theorem xo_put (hx : p.tables.exec = Jvm.exec) (hb : c.code = xp_code mid) {own ref C : String} {T : u_T} {N ci index : Nat} (hts : ∀ w ∈ xp_tw, w.before args s = true) (hin : ∀ w ∈ u_ws C T N, w ∈ xp_tw) (ty0 : Nat → FieldType) (hty : ∀ k, k < N → parseFieldDescriptor (T k).2.2.1 = some (ty0 k)) (hnm : ∀ a, a < N → ∀ b, b < N → a ≠ b → (T a).2.1 ≠ (T b).2.1) (hown : s.vm.findClass own = some m.cls) (hK : va_K D vwCl (xe_tys cy) s) (hP : va_P D vwCl ws H) (hD : va_D A ws) (hS0 : va_S A s.heap H locs) (hcz : s.heap.size + cells = H.size) (q0 : Nat) {fs : List Value} (he : ws[q0]? = some (a, .inr (ci, fs))) (hc : vwCl[ci]? = some (C, T, N)) (k : Nat) (hk : k < N) (hlink : (Cond.fieldLink own index ref (T k).2.1 (T k).2.2.1).before args s = true) (hdecl : (T k).1 = ref) (hfin : (T k).2.2.2 = true → meth.name = "<init>" ∧ (T k).1 = own) {ty : FieldType} {v : Value} (hd : parseFieldDescriptor (T k).2.2.1 = some ty) (hn : narrow ty v = v) (hfit : fits ty v = true) (hl : k < fs.length)
    (hdg : decode (xp_code mid) pc = .ok (.putfield index, 3)) (kk : ∀ (H1 : Heap) (locs1 : List Loc), va_P D vwCl (ws.set q0 (a, .inr (ci, fs.set k v))) H1 → va_D A (ws.set q0 (a, .inr (ci, fs.set k v))) → va_S A s.heap H1 locs1 → H1.size = H.size → W p l e R s m args below meth c H1 locs1 cells slots Q (F0 m (pc + 3) ls r)) : W p l e R s m args below meth c H locs cells slots Q (F0 m pc ls (v :: .ref a :: r)) := by
  have k2 : ∀ (H1 : Heap) (locs1 : List Loc), va_P D vwCl (ws.set q0 (a, .inr (ci, fs.set k v))) H1 → va_D A (ws.set q0 (a, .inr (ci, fs.set k v))) → va_S A H H1 locs1 → W p l e R s m args below meth c H1 locs1 cells slots Q (F0 m (pc + 3) ls r) := fun H1 locs1 h1 h2 h3 => xo_sized fun hz => kk H1 locs1 h1 h2 (xo_S_on hS0 h3) (by have := h3.1; omega)
  subst hdecl
  cases hf : (T k).2.2.2 with
  | false => exact va_put hx hb hts hin ty0 hty hnm hown hK hP hD (xo_S_here hS0) q0 he hc k hk hlink (fun _ h => h) hf hd hn hfit hl hdg k2
  | true => exact va_putF hx hb hts hin ty0 hty hnm hown hK hP hD (xo_S_here hS0) q0 he hc k hk hlink (fun _ h => h) hf (hfin hf).1 (hfin hf).2 hd hn hfit hl hdg k2
theorem xo_new (hx : p.tables.exec = Jvm.exec) (hb : c.code = xp_code mid) {own : String} {ci index : Nat} (hts : ∀ w ∈ xp_tw, w.before args s = true) (hci : ci < 8) (hown : s.vm.findClass own = some m.cls) (hcl : (Cond.classLink own index (xp_R ci)).before args s = true) (hinst : (Cond.instantiable (xp_R ci) (xp_N ci)).before args s = true) (hini : (Cond.initialized (xp_R ci)).before args s = true) (hK : va_K D vwCl (xe_tys cy) s) (hA : ∀ q, s.heap.size ≤ q → A q) (hw : xo_wd cy D s A g H locs cells) (hcells : cells + 1 ≤ R.cells) (hslots : slots + xp_N ci ≤ R.slots) (hdg : decode (xp_code mid) pc = .ok (.new index, 3))
    (kk : ∀ H1 : Heap, xo_wd cy D s A (xo_push g (.inl (ci, fun j => xo_df (xp_ty ci j))) (xp_N ci)) H1 locs (cells + 1) → W p l e R s m args below meth c H1 locs (cells + 1) (slots + xp_N ci) Q (F0 m (pc + 3) ls (.ref g.2.1 :: r))) : W p l e R s m args below meth c H locs cells slots Q (F0 m pc ls r) := by
  obtain ⟨ws, w1, w2, w3, w4, w5, w6⟩ := hw
  have hKn := hK.1 ci _ (xf_vw ci hci)
  refine W.newcK hx hb hown hcl hinst hini rfl hdg hcells hslots hKn.2.1 w5 fun H1 kC hkC e1 z1 o1 => ?_
  have hk : ∀ (k : Nat) (x : Nat × va_E), ws[k]? = some x → H1[x.1]? = H[x.1]? := fun k x hx => o1 x.1 (by rw [← w5]; exact (w2 k x hx).lt)
  refine kk H1 ⟨_, w1.push (c := .inl (ci, fun j => xo_df (xp_ty ci j))), (w2.kept hk).app (fun k x hx => ?_), w3.push w2 w5.symm (hA _ (by omega)), ⟨by omega, fun x h1 h2 => (o1 x (by have := w4.1; omega)).trans (w4.2.1 x h1 h2), w4.2.2⟩, z1, by show s.heap.size + (cells + 1) = g.2.1 + 1; omega⟩
  have hz : k < 1 := (List.getElem?_eq_some_iff.mp hx).1
  rw [show k = 0 by omega] at hx
  cases hx
  exact ⟨_, xf_vw ci hci, (u_born (xp_ty ci) hts (xp_u hci) hKn hkC e1 (xf_pd ci hci)).to (fun j hj => by
    rw [xf_df ci hci j hj]
    unfold vp_V
    simp [hj])⟩
theorem xo_newa (hx : p.tables.exec = Jvm.exec) (hb : c.code = xp_code mid) {atype : ArrayType} {ty : FieldType} (harr : (Cond.arrayClass ty).before args s = true) (hty : newarray.typeOf atype = ty) (hK : va_K D vwCl (xe_tys cy) s) (hin : (cy ty, ty) ∈ xe_tys cy) {k : Int32} {a0 : Nat → vp_A} (ha : ∀ cA : ClassId, vp_cell cA (a0 k.toNatClampNeg) = arrV cA k.toNatClampNeg (fun _ => defaultValue ty)) (hprim : va_RA s (cy ty) ty = (s.vm.findClass ("[" ++ ty.toString) = some (cy ty))) (hA : ∀ q, s.heap.size ≤ q → A q) (hw : xo_wd cy D s A g H locs cells) (hn : ¬ k < 0) (hbytes : k.toNatClampNeg * componentBytes ty ≤ 536870912) (hcells : cells + 1 ≤ R.cells) (hslots : slots + k.toNatClampNeg ≤ R.slots) (hdg : decode (xp_code mid) pc = .ok (.newarray atype, 2))
    (kk : ∀ H1 : Heap, xo_wd cy D s A (xo_push g (.inr (ty, a0 k.toNatClampNeg)) k.toNatClampNeg) H1 locs (cells + 1) → W p l e R s m args below meth c H1 locs (cells + 1) (slots + k.toNatClampNeg) Q (F0 m (pc + 2) ls (.ref g.2.1 :: r))) : W p l e R s m args below meth c H locs cells slots Q (F0 m pc ls (.int k :: r)) := by
  obtain ⟨ws, w1, w2, w3, w4, w5, w6⟩ := hw
  subst hty
  refine va_newaK hx hb harr rfl hdg rfl hn rfl hbytes hcells hslots w5 fun H1 cA e1 z1 o1 hAr hNm => ?_
  obtain ⟨t0, ht0⟩ := List.getElem?_of_mem hin
  have hRA := (hK.2 t0 _ ht0).2
  dsimp only at hRA
  rw [hprim] at hRA
  have hcA : cA = cy (newarray.typeOf atype) := Option.some.inj (hNm.symm.trans hRA)
  subst hcA
  have hk : ∀ (k : Nat) (x : Nat × va_E), ws[k]? = some x → H1[x.1]? = H[x.1]? := fun k x hx => o1 x.1 (by rw [← w5]; exact (w2 k x hx).lt)
  refine kk H1 ⟨_, w1.push (c := .inr (newarray.typeOf atype, a0 k.toNatClampNeg)), (w2.kept hk).app (fun k x hx => ?_), w3.push w2 w5.symm (hA _ (by omega)), ⟨by omega, fun x h1 h2 => (o1 x (by have := w4.1; omega)).trans (w4.2.1 x h1 h2), w4.2.2⟩, z1, by show s.heap.size + (cells + 1) = g.2.1 + 1; omega⟩
  have hz : k < 1 := (List.getElem?_eq_some_iff.mp hx).1
  rw [show k = 0 by omega] at hx
  cases hx
  show H1[g.2.1]? = some (vp_cell _ _)
  rw [ha]
  exact e1
theorem xo_anew (hx : p.tables.exec = Jvm.exec) (hb : c.code = xp_code mid) {own : String} {index : Nat} (hown : s.vm.findClass own = some m.cls) (hcl : (Cond.classLink own index "DilemmaProver$Equivalence").before args s = true) (hE : xe_E cy D X A s s.heap) {k : Int32} (hA : ∀ q, s.heap.size ≤ q → A q) (hw : xo_wd cy D s A g H locs cells) (hn : ¬ k < 0) (hbytes : k.toNatClampNeg * 4 ≤ 536870912) (hcells : cells + 1 ≤ R.cells) (hslots : slots + k.toNatClampNeg ≤ R.slots) (hdg : decode (xp_code mid) pc = .ok (.anewarray index, 3))
    (kk : ∀ H1 : Heap, xo_wd cy D s A (xo_push g (.inr (.object "DilemmaProver$Equivalence", (k.toNatClampNeg, .inr (.inr (.inr (.inr (fun _ => none))))))) k.toNatClampNeg) H1 locs (cells + 1) → W p l e R s m args below meth c H1 locs (cells + 1) (slots + k.toNatClampNeg) Q (F0 m (pc + 3) ls (.ref g.2.1 :: r))) : W p l e R s m args below meth c H locs cells slots Q (F0 m pc ls (.int k :: r)) := by
  obtain ⟨ws, w1, w2, w3, w4, w5, w6⟩ := hw
  refine W.anew hx hb hown hcl (va_AO.use hE.2.1.1) rfl hdg rfl hn hbytes hcells hslots fun cA kA comp f1 f2 f3 f4 => ?_
  obtain ⟨kA2, comp2, k1, k2, k3, k4⟩ := (hE.1.2 4 _ rfl).2
  have hcA : cA = cy (.object "DilemmaProver$Equivalence") := Option.some.inj (f1.symm.trans k4)
  subst hcA
  have o1 : ∀ q, q < H.size → (H.push ({ cls := cy (.object "DilemmaProver$Equivalence"), slots := Array.replicate k.toNatClampNeg .null, vm := .none } : Cell))[q]? = H[q]? := fun q hq => by
    rw [Array.getElem?_push_lt hq]
    exact (Array.getElem?_eq_getElem hq).symm
  rw [w5]
  refine kk _ ⟨_, w1.push (c := .inr (.object "DilemmaProver$Equivalence", (k.toNatClampNeg, .inr (.inr (.inr (.inr (fun _ => none))))))), (w2.kept (fun k x hx => o1 x.1 ((w2 k x hx).lt))).app (fun k x hx => ?_), w3.push w2 w5.symm (hA _ (by omega)), ⟨by simp; have := w4.1; omega, fun x h1 h2 => (o1 x (by have := w4.1; omega)).trans (w4.2.1 x h1 h2), w4.2.2⟩, by simp [w5, xo_push], by show s.heap.size + (cells + 1) = g.2.1 + 1; omega⟩
  have hz : k < 1 := (List.getElem?_eq_some_iff.mp hx).1
  rw [show k = 0 by omega] at hx
  cases hx
  show (H.push _)[g.2.1]? = some (vp_cell _ _)
  rw [vp_cell_q, ← w5, Array.getElem?_push_size]
  exact congrArg some (arrV_new _ _ _)
theorem xf_mn1 : lw_tbl[120]? = some (Jvm.Cond.classLink "DilemmaProver$Circuit" (24 : Nat) "[[I") := by decide +kernel
theorem xo_outer (c : ClassId) (N h0 : Nat) : ∀ i : Nat, Jvm.Free.Multi.outerC c N h0 i = arrV c N (fun j => va_rf (if j < i then some (h0 + 1 + j) else none))
  | 0 => by
    show ({ cls := c, slots := Array.replicate N .null, vm := .none } : Cell) = _
    rw [arrV_new]
    refine congrArg (arrV c N) (funext fun j => ?_)
    simp [va_rf]
  | i + 1 => by
    show (Jvm.Free.Multi.outerC c N h0 i).setSlot i (.ref (h0 + 1 + i)) = _
    rw [xo_outer c N h0 i, arrV_store]
    refine congrArg (arrV c N) (funext fun j => ?_)
    by_cases e : j = i
    · subst e
      simp [updV, va_rf]
    · by_cases h : j < i
      · simp [updV, e, h, Nat.lt_succ_of_lt h]
      · simp [updV, e, h, show ¬ j < i + 1 by omega]
theorem xo_mna (hx : p.tables.exec = Jvm.exec) (hb : c.code = xp_code mid) {own : String} {index : Nat} (hown : s.vm.findClass own = some m.cls) (hcl : (Cond.classLink own index "[[I").before args s = true) (harr : (Cond.arrayClass .int).before args s = true) (hE : xe_E cy D X A s s.heap) {n k : Int32} (hA : ∀ q, s.heap.size ≤ q → A q) (hw : xo_wd cy D s A g H locs cells) (hn : ¬ n < 0) (hk : ¬ k < 0) (hb1 : n.toNatClampNeg ≤ 100000) (hb2 : k.toNatClampNeg ≤ 100000) (hcells : cells + (1 + n.toNatClampNeg) ≤ R.cells) (hslots : slots + (n.toNatClampNeg + n.toNatClampNeg * k.toNatClampNeg) ≤ R.slots) (hdg : decode (xp_code mid) pc = .ok (.multianewarray index 2, 4))
    (kk : ∀ H1 : Heap, xo_wd cy D s A (xo_grid g n.toNatClampNeg k.toNatClampNeg) H1 locs (cells + 1 + n.toNatClampNeg) → W p l e R s m args below meth c H1 locs (cells + 1 + n.toNatClampNeg) (slots + n.toNatClampNeg + n.toNatClampNeg * k.toNatClampNeg) Q (F0 m (pc + 4) ls (.ref g.2.1 :: r))) : W p l e R s m args below meth c H locs cells slots Q (F0 m pc ls (.int k :: .int n :: r)) := by
  obtain ⟨ws, w1, w2, w3, w4, w5, w6⟩ := hw
  intro T hT Xs
  obtain ⟨vm₁, cA, comp, -, fA, fC, -, -, X', step⟩ := Xs.multianewarray2F (ty := .int) hx hown hcl (xe_AA.use hE.2.1.2) harr (g := F0 m pc ls (.int k :: .int n :: r)) rfl (by rw [hb]; exact hdg) rfl hn hk (by omega) (by simp [componentBytes]; omega) (by omega) rfl rfl hcells hslots
  have ec : comp = cy .int := Option.some.inj (fC.symm.trans (hE.1.2 0 _ rfl).2)
  have eA : cA = cy (.array .int) := Option.some.inj (fA.symm.trans (hE.1.2 5 _ rfl).2)
  subst ec
  subst eA
  generalize hF : Jvm.Free.Multi.fill (T.setVm vm₁) (cy (.array .int)) (cy .int) n.toNatClampNeg k.toNatClampNeg (defaultValue .int) n.toNatClampNeg = F at X' step
  have hTh : (T.setVm vm₁).heap = H := hT
  obtain ⟨f1, f2, -, -⟩ := Jvm.Free.Multi.fill_facts (T.setVm vm₁) (cy (.array .int)) (cy .int) n.toNatClampNeg k.toNatClampNeg (defaultValue .int) n.toNatClampNeg
  rw [hF, hTh] at f1 f2
  have hold : ∀ x : Nat, x < H.size → F.heap[x]? = H[x]? := fun x hx => by
    have := Jvm.Free.Multi.fill_old (T.setVm vm₁) (cy (.array .int)) (cy .int) n.toNatClampNeg k.toNatClampNeg (defaultValue .int) (a := x) (by rw [hTh]; exact hx) n.toNatClampNeg
    rw [hF, hTh] at this
    exact this
  have hz : Jvm.Free.Multi.innerC (cy .int) k.toNatClampNeg (defaultValue .int) = vp_cell (cy .int) (k.toNatClampNeg, .inl (fun _ => 0)) := by
    show ({ cls := cy .int, slots := Array.replicate k.toNatClampNeg (.int 0), vm := .none } : Cell) = _
    rw [arrV_new]
    rfl
  have hrow : ∀ j : Nat, j < n.toNatClampNeg → F.heap[H.size + 1 + j]? = some (vp_cell (cy .int) (k.toNatClampNeg, .inl (fun _ => 0))) := fun j hj => by
    have := Jvm.Free.Multi.fill_inner (T.setVm vm₁) (cy (.array .int)) (cy .int) n.toNatClampNeg k.toNatClampNeg (defaultValue .int) n.toNatClampNeg j hj
    rw [hF, hTh, hz] at this
    exact this
  have hout : Jvm.Free.Multi.outerC (cy (.array .int)) n.toNatClampNeg H.size n.toNatClampNeg = vp_cell (cy (.array .int)) (n.toNatClampNeg, .inr (.inr (.inr (.inr (fun i => if i < n.toNatClampNeg then some (H.size + 1 + i) else none))))) := by
    rw [vp_cell_q]
    exact xo_outer (cy (.array .int)) n.toNatClampNeg H.size n.toNatClampNeg
  rw [hout] at f2
  generalize hN : n.toNatClampNeg = N at *
  generalize hM : k.toNatClampNeg = M at *
  have hlast : ∀ (k9 : Nat) (x : Nat × va_E), (ws ++ [(H.size, (.inl (cy (.array .int), N, .inr (.inr (.inr (.inr (fun i => if i < N then some (H.size + 1 + i) else none)))))) )])[k9]? = some x → x.1 ≤ H.size := fun k9 x hx => by
    by_cases hl : k9 < ws.length
    · rw [List.getElem?_append_left hl] at hx
      exact Nat.le_of_lt ((w2 k9 x hx).lt)
    · rw [List.getElem?_append_right (by omega)] at hx
      have h0 : k9 - ws.length < 1 := (List.getElem?_eq_some_iff.mp hx).1
      rw [show k9 - ws.length = 0 by omega] at hx
      cases hx
      exact Nat.le_refl _
  have hP1 : va_P D vwCl (ws ++ [(H.size, .inl (cy (.array .int), N, .inr (.inr (.inr (.inr (fun i => if i < N then some (H.size + 1 + i) else none))))))]) F.heap := (w2.kept (fun k9 x hx => hold x.1 ((w2 k9 x hx).lt))).app (fun k9 x hx => by
    have h0 : k9 < 1 := (List.getElem?_eq_some_iff.mp hx).1
    rw [show k9 = 0 by omega] at hx
    cases hx
    exact f2)
  have hD1 := w3.push (e := .inl (cy (.array .int), N, .inr (.inr (.inr (.inr (fun i => if i < N then some (H.size + 1 + i) else none)))))) w2 rfl (hA _ (by omega))
  have hW1 : ∀ (a : Nat) (c' : xo_C), (if a = g.2.1 then some (Sum.inr (FieldType.array .int, (N, .inr (.inr (.inr (.inr (fun i => if i < N then some (g.2.1 + 1 + i) else none))))))) else g.1 a) = some c' → ∃ k9 : Nat, (ws ++ [(H.size, .inl (cy (.array .int), N, .inr (.inr (.inr (.inr (fun i => if i < N then some (H.size + 1 + i) else none))))))])[k9]? = some (a, xo_E cy c') := fun a c' ha => by
    split at ha
    · rename_i e
      cases ha
      refine ⟨ws.length, ?_⟩
      rw [List.getElem?_append_right (Nat.le_refl _), Nat.sub_self, e, ← w5]
      rfl
    · obtain ⟨j, hj⟩ := w1 a c' ha
      exact ⟨j, by rw [List.getElem?_append_left (List.getElem?_eq_some_iff.mp hj).1]; exact hj⟩
  generalize hWs : ws ++ [(H.size, (.inl (cy (.array .int), N, .inr (.inr (.inr (.inr (fun i => if i < N then some (H.size + 1 + i) else none))))) : va_E))] = W1 at hlast hP1 hD1 hW1
  have hr : ∀ (k9 : Nat) (x : Nat × va_E), ((List.range N).map (fun i => ((H.size + 1 + i, .inl (cy .int, (M, .inl (fun _ => 0)))) : Nat × va_E)))[k9]? = some x → x.1 = H.size + 1 + k9 ∧ k9 < N ∧ x.2 = .inl (cy .int, (M, .inl (fun _ => 0))) := fun k9 x hx => by
    rw [List.getElem?_map] at hx
    by_cases h9 : k9 < N
    · rw [List.getElem?_range h9] at hx
      cases hx
      exact ⟨rfl, h9, rfl⟩
    · have hn0 : (List.range N)[k9]? = none := List.getElem?_eq_none (by rw [List.length_range]; omega)
      rw [hn0] at hx
      cases hx
  have hP2 : va_P D vwCl (W1 ++ (List.range N).map (fun i => ((H.size + 1 + i, .inl (cy .int, (M, .inl (fun _ => 0)))) : Nat × va_E))) F.heap := hP1.app (fun k9 x hx => by
    obtain ⟨x1, x2, x3⟩ := hr k9 x hx
    obtain ⟨xa, xe⟩ := x
    dsimp only at x1 x3
    subst x1
    subst x3
    exact hrow k9 x2)
  have hD2 : va_D A (W1 ++ (List.range N).map (fun i => ((H.size + 1 + i, .inl (cy .int, (M, .inl (fun _ => 0)))) : Nat × va_E))) := by
    refine ⟨fun i j x y hi hj hxy => ?_, fun k9 x hx => ?_⟩
    · by_cases h1 : i < W1.length <;> by_cases h2 : j < W1.length
      · rw [List.getElem?_append_left h1] at hi
        rw [List.getElem?_append_left h2] at hj
        exact hD1.1 i j x y hi hj hxy
      · rw [List.getElem?_append_left h1] at hi
        rw [List.getElem?_append_right (by omega)] at hj
        have := hlast _ _ hi
        have := (hr _ _ hj).1
        omega
      · rw [List.getElem?_append_right (by omega)] at hi
        rw [List.getElem?_append_left h2] at hj
        have := hlast _ _ hj
        have := (hr _ _ hi).1
        omega
      · rw [List.getElem?_append_right (by omega)] at hi hj
        have := (hr _ _ hi).1
        have := (hr _ _ hj).1
        omega
    · by_cases h1 : k9 < W1.length
      · rw [List.getElem?_append_left h1] at hx
        exact hD1.2 k9 x hx
      · rw [List.getElem?_append_right (by omega)] at hx
        have := (hr _ _ hx).1
        exact hA _ (by omega)
  have hW2 : xo_W cy (xo_grid g N M).1 (W1 ++ (List.range N).map (fun i => ((H.size + 1 + i, .inl (cy .int, (M, .inl (fun _ => 0)))) : Nat × va_E))) := by
    intro a c' ha
    dsimp only [xo_grid] at ha
    by_cases e1 : a = g.2.1
    · obtain ⟨j, hj⟩ := hW1 a c' (by rw [if_pos e1] at ha ⊢; exact ha)
      exact ⟨j, by rw [List.getElem?_append_left (List.getElem?_eq_some_iff.mp hj).1]; exact hj⟩
    · rw [if_neg e1] at ha
      by_cases e2 : g.2.1 < a ∧ a < g.2.1 + 1 + N
      · rw [if_pos e2] at ha
        cases ha
        refine ⟨W1.length + (a - (g.2.1 + 1)), ?_⟩
        rw [List.getElem?_append_right (by omega), List.getElem?_map, List.getElem?_range (by omega)]
        show some (H.size + 1 + (W1.length + (a - (g.2.1 + 1)) - W1.length), _) = some (a, _)
        rw [show H.size + 1 + (W1.length + (a - (g.2.1 + 1)) - W1.length) = a by omega]
        rfl
      · rw [if_neg e2] at ha
        obtain ⟨j, hj⟩ := hW1 a c' (by rw [if_neg e1]; exact ha)
        exact ⟨j, by rw [List.getElem?_append_left (List.getElem?_eq_some_iff.mp hj).1]; exact hj⟩
  obtain ⟨t, a1, b1⟩ := kk F.heap ⟨_, hW2, hP2, hD2, ⟨by rw [f1]; have := w4.1; omega, fun x h1 h2 => (hold x (Nat.lt_of_lt_of_le h1 w4.1)).trans (w4.2.1 x h1 h2), w4.2.2⟩, by show F.heap.size = g.2.1 + 1 + N; rw [f1, w5], by show s.heap.size + (cells + 1 + N) = g.2.1 + 1 + N; omega⟩ F rfl X'
  refine ⟨t, step t ?_, b1⟩
  have e : T.heap.size = g.2.1 := by rw [hT, w5]
  rw [e]
  exact a1
end XR
set_option maxHeartbeats 4000000 in
theorem xo_stp_ok (C : xo_cx cy D X p R s m args meth c mid A) {i : Instr} {len pc : Nat} {L : xo_L} {st : List Value} {g : xo_G} {k : xo_K} {H : Heap} {locs : List Loc} {cells slots : Nat} {Q : State → Prop} {ls : Array Slot} (hd : decode (xp_code mid) pc = .ok (i, len)) (hlen : xo_len i len = true) (hs : xo_stp X mid i pc L st g = some k) (hw : xo_wd cy D s A g H locs cells) (hl : xo_lh ls L) (hL : L.length = xp_ml mid) (hcl : cells + k.2.2.2.2.1 ≤ R.cells + g.2.1) (hsl : slots + k.2.2.2.2.2 ≤ R.slots + g.2.2)
    (kk : ∀ (H1 : Heap) (locs1 : List Loc) (cells1 slots1 : Nat) (ls1 : Array Slot), xo_wd cy D s A k.2.2.2 H1 locs1 cells1 → xo_lh ls1 k.2.1 → slots1 + g.2.2 = slots + k.2.2.2.2.2 → W p l e R s m args below meth c H1 locs1 cells1 slots1 Q (F0 m k.1 ls1 k.2.2.1)) : W p l e R s m args below meth c H locs cells slots Q (F0 m pc ls st) := by
  obtain ⟨hx, hb, hml, hown, hts, hA, hE, hini, hfr, hlo⟩ := C
  unfold xo_stp at hs
  split at hs
  · simp only [xo_len, beq_iff_eq] at hlen; subst hlen
    cases hs
    exact lv_iconst hx hb hd rfl (kk H locs cells slots ls hw hl rfl)
  · simp only [xo_len, beq_iff_eq] at hlen; subst hlen
    cases hs
    exact lv_bipush hx hb hd rfl (kk H locs cells slots ls hw hl rfl)
  · simp only [xo_len, beq_iff_eq] at hlen; subst hlen
    cases hs
    exact lv_sipush hx hb hd rfl (kk H locs cells slots ls hw hl rfl)
  · simp only [xo_len, beq_iff_eq] at hlen; subst hlen
    cases hs
    exact lv_lconst hx hb hd rfl (kk H locs cells slots ls hw hl rfl)
  · simp only [xo_len, beq_iff_eq] at hlen; subst hlen
    split at hs
    · rename_i q hq
      cases hs
      unfold xo_ks at hq
      split at hq
      · rename_i ho
        have ho : xp_own mid = 2 := by simpa using ho
        rw [ho] at hown
        obtain ⟨-, -, -, -, -, -, -, -, -, -, -, k1, k2, k3, k4⟩ := hE
        split at hq
        · rename_i e1; have e1 := eq_of_beq e1; cases hq; subst e1
          exact va_ldcS hx hb hown k1 hd (kk H locs cells slots ls hw hl rfl)
        · split at hq
          · rename_i e1; have e1 := eq_of_beq e1; cases hq; subst e1
            exact va_ldcS hx hb hown k2 hd (kk H locs cells slots ls hw hl rfl)
          · split at hq
            · rename_i e1; have e1 := eq_of_beq e1; cases hq; subst e1
              exact va_ldcS hx hb hown k3 hd (kk H locs cells slots ls hw hl rfl)
            · split at hq
              · rename_i e1; have e1 := eq_of_beq e1; cases hq; subst e1
                exact va_ldcS hx hb hown k4 hd (kk H locs cells slots ls hw hl rfl)
              · cases hq
      · cases hq
    · cases hs
  · simp only [xo_len, beq_iff_eq] at hlen; subst hlen
    split at hs
    · rename_i v hq
      cases hs
      unfold xo_ki at hq
      split at hq
      · rename_i ho
        simp only [Bool.and_eq_true, beq_iff_eq] at ho
        cases hq
        rw [ho.1] at hown
        rw [ho.2] at hd
        exact lv_ldcw hx hb hown (hts _ (xp_tw_in (List.mem_of_getElem? xf_ki0) rfl)) hd (kk H locs cells slots ls hw hl rfl)
      · cases hq
    · cases hs
  · simp only [xo_len, beq_iff_eq] at hlen; subst hlen
    split at hs
    · rename_i v hq
      cases hs
      unfold xo_kl at hq
      split at hq
      · rename_i ho
        simp only [Bool.and_eq_true, beq_iff_eq] at ho
        cases hq
        rw [ho.1] at hown
        rw [ho.2] at hd
        exact lv_ldc2 hx hb hown (hts _ (xp_tw_in (List.mem_of_getElem? xf_kl0) rfl)) hd (kk H locs cells slots ls hw hl rfl)
      · split at hq
        · rename_i ho
          simp only [Bool.and_eq_true, beq_iff_eq] at ho
          cases hq
          rw [ho.1] at hown
          rw [ho.2] at hd
          exact lv_ldc2 hx hb hown (hts _ (xp_tw_in (List.mem_of_getElem? xf_kl1) rfl)) hd (kk H locs cells slots ls hw hl rfl)
        · cases hq
    · cases hs
  · simp only [xo_len, beq_iff_eq] at hlen; subst hlen
    split at hs
    · rename_i x hq
      cases hs
      exact lv_iload_n hx hb hd rfl (hl.at hq) (kk H locs cells slots ls hw hl rfl)
    · cases hs
  · simp only [xo_len, beq_iff_eq] at hlen; subst hlen
    split at hs
    · rename_i x hq
      cases hs
      exact lv_iload hx hb hd (hl.at hq) (kk H locs cells slots ls hw hl rfl)
    · cases hs
  · simp only [xo_len, beq_iff_eq] at hlen; subst hlen
    split at hs
    · rename_i x hq
      cases hs
      exact lv_lload_n hx hb hd rfl (hl.at hq) (kk H locs cells slots ls hw hl rfl)
    · cases hs
  · simp only [xo_len, beq_iff_eq] at hlen; subst hlen
    split at hs
    · rename_i x hq
      cases hs
      exact lv_lload hx hb hd (hl.at hq) (kk H locs cells slots ls hw hl rfl)
    · cases hs
  · simp only [xo_len, beq_iff_eq] at hlen; subst hlen
    split at hs
    · rename_i x hq
      cases hs
      exact lv_aload_n hx hb hd rfl (hl.at hq) (kk H locs cells slots ls hw hl rfl)
    · cases hs
  · simp only [xo_len, beq_iff_eq] at hlen; subst hlen
    split at hs
    · rename_i x hq
      cases hs
      exact lv_aload hx hb hd (hl.at hq) (kk H locs cells slots ls hw hl rfl)
    · cases hs
  · simp only [xo_len, beq_iff_eq] at hlen; subst hlen
    unfold xo_i1 at hs
    split at hs
    · try dsimp only at hs
      unfold xo_sto at hs
      split at hs
      · rename_i hk
        simp only [Bool.and_eq_true, decide_eq_true_eq] at hk
        cases hs
        exact lv_istore_n hx hb hd rfl hl.has hk.1 rfl (fun ls' h' => kk H locs cells slots ls' hw (xo_lh.sto hk.1 hk.2 h') rfl)
      · cases hs
    · cases hs
  · simp only [xo_len, beq_iff_eq] at hlen; subst hlen
    unfold xo_i1 at hs
    split at hs
    · try dsimp only at hs
      unfold xo_sto at hs
      split at hs
      · rename_i hk
        simp only [Bool.and_eq_true, decide_eq_true_eq] at hk
        cases hs
        exact lv_istore hx hb hd hl.has hk.1 rfl (fun ls' h' => kk H locs cells slots ls' hw (xo_lh.sto hk.1 hk.2 h') rfl)
      · cases hs
    · cases hs
  · simp only [xo_len, beq_iff_eq] at hlen; subst hlen
    unfold xo_r1 at hs
    split at hs
    · try dsimp only at hs
      unfold xo_sto at hs
      split at hs
      · rename_i hk
        simp only [Bool.and_eq_true, decide_eq_true_eq] at hk
        cases hs
        exact lv_astore_n hx hb hd rfl hl.has hk.1 rfl (fun ls' h' => kk H locs cells slots ls' hw (xo_lh.sto hk.1 hk.2 h') rfl)
      · cases hs
    · cases hs
  · simp only [xo_len, beq_iff_eq] at hlen; subst hlen
    unfold xo_r1 at hs
    split at hs
    · try dsimp only at hs
      unfold xo_sto at hs
      split at hs
      · rename_i hk
        simp only [Bool.and_eq_true, decide_eq_true_eq] at hk
        cases hs
        exact lv_astore hx hb hd hl.has hk.1 rfl (fun ls' h' => kk H locs cells slots ls' hw (xo_lh.sto hk.1 hk.2 h') rfl)
      · cases hs
    · cases hs
  · simp only [xo_len, beq_iff_eq] at hlen; subst hlen
    unfold xo_l1 at hs
    split at hs
    · try dsimp only at hs
      unfold xo_stl at hs
      split at hs
      · rename_i hk
        simp only [Bool.and_eq_true, decide_eq_true_eq] at hk
        cases hs
        exact lv_lstore_n hx hb hd rfl hl.has hk.1 rfl (fun ls' h' => kk H locs cells slots ls' hw (xo_lh.stl hk.1 hk.2 h') rfl)
      · cases hs
    · cases hs
  · simp only [xo_len, beq_iff_eq] at hlen; subst hlen
    unfold xo_l1 at hs
    split at hs
    · try dsimp only at hs
      unfold xo_stl at hs
      split at hs
      · rename_i hk
        simp only [Bool.and_eq_true, decide_eq_true_eq] at hk
        cases hs
        exact lv_lstore hx hb hd hl.has hk.1 rfl (fun ls' h' => kk H locs cells slots ls' hw (xo_lh.stl hk.1 hk.2 h') rfl)
      · cases hs
    · cases hs
  · simp only [xo_len, beq_iff_eq] at hlen; subst hlen
    split at hs
    · rename_i x hq
      unfold xo_sto at hs
      split at hs
      · rename_i hk
        simp only [Bool.and_eq_true, decide_eq_true_eq] at hk
        cases hs
        obtain ⟨j, hj⟩ := List.getElem?_of_mem (xo_pr_mem.mpr (xo_ld_some hq))
        exact lv_iinc hx hb hd hl.has hj rfl hk.1 rfl (fun ls' h' => kk H locs cells slots ls' hw (xo_lh.sto hk.1 hk.2 h') rfl)
      · cases hs
    · cases hs
  · simp only [xo_len, beq_iff_eq] at hlen; subst hlen
    unfold xo_i2 at hs
    split at hs
    · try dsimp only at hs
      cases hs
      exact lv_iadd hx hb hd (kk H locs cells slots ls hw hl rfl)
    · cases hs
  · simp only [xo_len, beq_iff_eq] at hlen; subst hlen
    unfold xo_i2 at hs
    split at hs
    · try dsimp only at hs
      cases hs
      exact lv_isub hx hb hd (kk H locs cells slots ls hw hl rfl)
    · cases hs
  · simp only [xo_len, beq_iff_eq] at hlen; subst hlen
    unfold xo_i2 at hs
    split at hs
    · try dsimp only at hs
      cases hs
      exact lv_imul hx hb hd (kk H locs cells slots ls hw hl rfl)
    · cases hs
  · simp only [xo_len, beq_iff_eq] at hlen; subst hlen
    unfold xo_i2 at hs
    split at hs
    · try dsimp only at hs
      cases hs
      exact lv_iand hx hb hd (kk H locs cells slots ls hw hl rfl)
    · cases hs
  · simp only [xo_len, beq_iff_eq] at hlen; subst hlen
    unfold xo_i2 at hs
    split at hs
    · try dsimp only at hs
      cases hs
      exact lv_ior hx hb hd (kk H locs cells slots ls hw hl rfl)
    · cases hs
  · simp only [xo_len, beq_iff_eq] at hlen; subst hlen
    unfold xo_i2 at hs
    split at hs
    · try dsimp only at hs
      cases hs
      exact lv_ixor hx hb hd (kk H locs cells slots ls hw hl rfl)
    · cases hs
  · simp only [xo_len, beq_iff_eq] at hlen; subst hlen
    unfold xo_i2 at hs
    split at hs
    · try dsimp only at hs
      cases hs
      exact lv_ishl hx hb hd (kk H locs cells slots ls hw hl rfl)
    · cases hs
  · simp only [xo_len, beq_iff_eq] at hlen; subst hlen
    unfold xo_i2 at hs
    split at hs
    · try dsimp only at hs
      cases hs
      exact lv_ishr hx hb hd (kk H locs cells slots ls hw hl rfl)
    · cases hs
  · simp only [xo_len, beq_iff_eq] at hlen; subst hlen
    unfold xo_i2 at hs
    split at hs
    · try dsimp only at hs
      cases hs
      exact lv_iushr hx hb hd rfl (kk H locs cells slots ls hw hl rfl)
    · cases hs
  · simp only [xo_len, beq_iff_eq] at hlen; subst hlen
    unfold xo_l2 at hs
    split at hs
    · try dsimp only at hs
      cases hs
      exact lv_land hx hb hd (kk H locs cells slots ls hw hl rfl)
    · cases hs
  · simp only [xo_len, beq_iff_eq] at hlen; subst hlen
    unfold xo_l2 at hs
    split at hs
    · try dsimp only at hs
      cases hs
      exact lv_lor hx hb hd (kk H locs cells slots ls hw hl rfl)
    · cases hs
  · simp only [xo_len, beq_iff_eq] at hlen; subst hlen
    unfold xo_l2 at hs
    split at hs
    · try dsimp only at hs
      cases hs
      exact lv_lxor hx hb hd (kk H locs cells slots ls hw hl rfl)
    · cases hs
  · simp only [xo_len, beq_iff_eq] at hlen; subst hlen
    unfold xo_l1 at hs
    split at hs
    · try dsimp only at hs
      cases hs
      exact lv_lneg hx hb hd (kk H locs cells slots ls hw hl rfl)
    · cases hs
  · simp only [xo_len, beq_iff_eq] at hlen; subst hlen
    unfold xo_li at hs
    split at hs
    · try dsimp only at hs
      cases hs
      exact lv_lshl hx hb hd rfl (kk H locs cells slots ls hw hl rfl)
    · cases hs
  · simp only [xo_len, beq_iff_eq] at hlen; subst hlen
    unfold xo_li at hs
    split at hs
    · try dsimp only at hs
      cases hs
      exact lv_lshr hx hb hd rfl (kk H locs cells slots ls hw hl rfl)
    · cases hs
  · simp only [xo_len, beq_iff_eq] at hlen; subst hlen
    unfold xo_li at hs
    split at hs
    · try dsimp only at hs
      cases hs
      exact lv_lushr hx hb hd rfl (kk H locs cells slots ls hw hl rfl)
    · cases hs
  · simp only [xo_len, beq_iff_eq] at hlen; subst hlen
    unfold xo_i1 at hs
    split at hs
    · try dsimp only at hs
      cases hs
      exact lv_i2l hx hb hd rfl (kk H locs cells slots ls hw hl rfl)
    · cases hs
  · simp only [xo_len, beq_iff_eq] at hlen; subst hlen
    unfold xo_l1 at hs
    split at hs
    · try dsimp only at hs
      cases hs
      exact lv_l2i hx hb hd rfl (kk H locs cells slots ls hw hl rfl)
    · cases hs
  · simp only [xo_len, beq_iff_eq] at hlen; subst hlen
    unfold xo_i1 at hs
    split at hs
    · try dsimp only at hs
      cases hs
      exact lv_i2b hx hb hd rfl (kk H locs cells slots ls hw hl rfl)
    · cases hs
  · simp only [xo_len, beq_iff_eq] at hlen; subst hlen
    unfold xo_i1 at hs
    split at hs
    · try dsimp only at hs
      cases hs
      exact lv_i2c hx hb hd rfl (kk H locs cells slots ls hw hl rfl)
    · cases hs
  · simp only [xo_len, beq_iff_eq] at hlen; subst hlen
    split at hs
    · split at hs
      · rename_i hc
        cases hs
        exact lv_pop hx hb hd hc (kk H locs cells slots ls hw hl rfl)
      · cases hs
    · cases hs
  · simp only [xo_len, beq_iff_eq] at hlen; subst hlen
    split at hs
    · split at hs
      · rename_i hc
        cases hs
        exact lv_dup hx hb hd hc (kk H locs cells slots ls hw hl rfl)
      · cases hs
    · cases hs
  · simp only [xo_len, beq_iff_eq] at hlen; subst hlen
    split at hs
    · split at hs
      · rename_i hc
        cases hs
        exact lv_dup2_11 hx hb hd hc.1 hc.2 (kk H locs cells slots ls hw hl rfl)
      · cases hs
    · cases hs
  · simp only [xo_len, beq_iff_eq] at hlen; subst hlen
    unfold xo_l2 at hs
    split at hs
    · try dsimp only at hs
      cases hs
      exact W.lcmp hx hb hd (kk H locs cells slots ls hw hl rfl)
    · cases hs
  · simp only [xo_len, beq_iff_eq] at hlen; subst hlen
    unfold xo_i1 at hs
    split at hs
    · try dsimp only at hs
      exact xo_br1 hx hb hd hs (fun e1 => by obtain ⟨k1, k2⟩ := k; dsimp only at e1; subst e1; exact kk H locs cells slots ls hw hl rfl)
    · cases hs
  · simp only [xo_len, beq_iff_eq] at hlen; subst hlen
    unfold xo_i2 at hs
    split at hs
    · try dsimp only at hs
      exact xo_br2 hx hb hd hs (fun e1 => by obtain ⟨k1, k2⟩ := k; dsimp only at e1; subst e1; exact kk H locs cells slots ls hw hl rfl)
    · cases hs
  · simp only [xo_len, beq_iff_eq] at hlen; subst hlen
    obtain ⟨e1, e2⟩ := xo_jmp_spec hs
    obtain ⟨k1, k2⟩ := k
    dsimp only at e1 e2
    subst e1
    exact lv_goto hx hb hd e2 (kk H locs cells slots ls hw hl rfl)
  · unfold xo_i1 at hs
    split at hs
    · try dsimp only at hs
      split at hs
      · rename_i hc
        obtain ⟨e1, e2⟩ := xo_jmp_spec hs
        obtain ⟨k1, k2⟩ := k
        dsimp only at e1 e2
        subst e1
        exact lv_tableOut hx hb hd hc e2 (kk H locs cells slots ls hw hl rfl)
      · rename_i hc
        split at hs
        · rename_i off ho
          obtain ⟨e1, e2⟩ := xo_jmp_spec hs
          obtain ⟨k1, k2⟩ := k
          dsimp only at e1 e2
          subst e1
          exact lv_tableIn hx hb hd (fun h => hc (Or.inl h)) (fun h => hc (Or.inr h)) ho e2 (kk H locs cells slots ls hw hl rfl)
        · cases hs
    · cases hs
  · unfold xo_i1 at hs
    split at hs
    · try dsimp only at hs
      split at hs
      · rename_i hc
        obtain ⟨e1, e2⟩ := xo_jmp_spec hs
        obtain ⟨k1, k2⟩ := k
        dsimp only at e1 e2
        subst e1
        exact lv_lookup hx hb hd hc rfl e2 (kk H locs cells slots ls hw hl rfl)
      · cases hs
    · cases hs
  · simp only [xo_len, beq_iff_eq] at hlen; subst hlen
    unfold xo_r1 at hs
    split at hs
    · try dsimp only at hs
      split at hs
      · rename_i a r _ n hn
        cases hs
        unfold xo_al at hn
        obtain ⟨ws, w1, w2, w3, w4, w5, w6⟩ := hw
        split at hn
        · rename_i ty x hg
          cases hn
          obtain ⟨q, hq⟩ := w1 _ _ hg
          exact va_alen hx hb hE.1 w2 q 0 hq rfl rfl hd (kk H locs cells slots ls ⟨ws, w1, w2, w3, w4, w5, w6⟩ hl rfl)
        · cases hn
        · rename_i hg
          split at hn
          · rename_i q hq
            cases hn
            exact va_tlen hx hb (hE.2.2.2.2.1 a q.1 q.2 hq) w4 rfl hd (kk H locs cells slots ls ⟨ws, w1, w2, w3, w4, w5, w6⟩ hl rfl)
          · split at hn
            · rename_i q hq
              cases hn
              exact va_tlen hx hb (hE.2.2.2.2.2.1 a q.1 q.2 hq) w4 rfl hd (kk H locs cells slots ls ⟨ws, w1, w2, w3, w4, w5, w6⟩ hl rfl)
            · cases hq : X.2.2.1 a with
              | none => rw [hq] at hn; cases hn
              | some q =>
                rw [hq] at hn
                cases hn
                exact va_tlen hx hb (hE.2.2.2.2.2.2.1 a q.1 q.2 hq) w4 rfl hd (kk H locs cells slots ls ⟨ws, w1, w2, w3, w4, w5, w6⟩ hl rfl)
      · cases hs
    · cases hs
  · simp only [xo_len, beq_iff_eq] at hlen; subst hlen
    unfold xo_ri1 at hs
    split at hs
    · try dsimp only at hs
      split at hs
      · rename_i i a r _ n f hn
        cases ho : xo_out i n with
        | true => rw [ho] at hs; cases hs
        | false =>
          rw [ho] at hs
          cases hs
          unfold xo_ri at hn
          obtain ⟨ws, w1, w2, w3, w4, w5, w6⟩ := hw
          split at hn
          · rename_i hg
            cases hn
            obtain ⟨q, hq⟩ := w1 _ _ hg
            exact va_iald hx hb hE.1 w2 q 0 hq rfl (xo_out_in ho) hd (kk H locs cells slots ls ⟨ws, w1, w2, w3, w4, w5, w6⟩ hl rfl)
          · cases hn
          · rename_i hg
            exact va_ti hx hb (hE.2.2.2.2.1 a n f hn) w4 (xo_out_in ho) rfl hd (kk H locs cells slots ls ⟨ws, w1, w2, w3, w4, w5, w6⟩ hl rfl)
      · cases hs
    · cases hs
  · simp only [xo_len, beq_iff_eq] at hlen; subst hlen
    unfold xo_ri1 at hs
    split at hs
    · try dsimp only at hs
      split at hs
      · rename_i i a r _ n f hn
        cases ho : xo_out i n with
        | true => rw [ho] at hs; cases hs
        | false =>
          rw [ho] at hs
          cases hs
          unfold xo_rb at hn
          obtain ⟨ws, w1, w2, w3, w4, w5, w6⟩ := hw
          split at hn
          · rename_i hg
            cases hn
            obtain ⟨q, hq⟩ := w1 _ _ hg
            exact va_bald hx hb hE.1 w2 q 1 hq rfl (xo_out_in ho) hd (kk H locs cells slots ls ⟨ws, w1, w2, w3, w4, w5, w6⟩ hl rfl)
          · rename_i hg
            cases hn
            obtain ⟨q, hq⟩ := w1 _ _ hg
            exact va_zald hx hb hE.1 w2 q 3 hq rfl (xo_out_in ho) hd (kk H locs cells slots ls ⟨ws, w1, w2, w3, w4, w5, w6⟩ hl rfl)
          · cases hn
          · rename_i hg
            exact va_tb hx hb (hE.2.2.2.2.2.1 a n f hn) w4 (xo_out_in ho) rfl hd (kk H locs cells slots ls ⟨ws, w1, w2, w3, w4, w5, w6⟩ hl rfl)
      · cases hs
    · cases hs
  · simp only [xo_len, beq_iff_eq] at hlen; subst hlen
    unfold xo_ri1 at hs
    split at hs
    · try dsimp only at hs
      split at hs
      · rename_i i a r _ n f hn
        cases ho : xo_out i n with
        | true => rw [ho] at hs; cases hs
        | false =>
          rw [ho] at hs
          cases hs
          unfold xo_rl at hn
          obtain ⟨ws, w1, w2, w3, w4, w5, w6⟩ := hw
          split at hn
          · rename_i hg
            cases hn
            obtain ⟨q, hq⟩ := w1 _ _ hg
            exact va_lald hx hb hE.1 w2 q 2 hq rfl (xo_out_in ho) hd (kk H locs cells slots ls ⟨ws, w1, w2, w3, w4, w5, w6⟩ hl rfl)
          · cases hn
          · rename_i hg
            exact va_tl hx hb (hE.2.2.2.2.2.2.1 a n f hn) w4 (xo_out_in ho) rfl hd (kk H locs cells slots ls ⟨ws, w1, w2, w3, w4, w5, w6⟩ hl rfl)
      · cases hs
    · cases hs
  · simp only [xo_len, beq_iff_eq] at hlen; subst hlen
    unfold xo_ri1 at hs
    split at hs
    · try dsimp only at hs
      split at hs
      · rename_i i a r _ n f hn
        cases ho : xo_out i n with
        | true => rw [ho] at hs; cases hs
        | false =>
          rw [ho] at hs
          cases hs
          unfold xo_rq at hn
          obtain ⟨ws, w1, w2, w3, w4, w5, w6⟩ := hw
          split at hn
          · rename_i hg
            split at hn
            · rename_i hC
              subst hC
              cases hn
              obtain ⟨q, hq⟩ := w1 _ _ hg
              exact va_aldq hx hb hE.1 w2 q 4 hq rfl (xo_out_in ho) hd (kk H locs cells slots ls ⟨ws, w1, w2, w3, w4, w5, w6⟩ hl rfl)
            · cases hn
          · rename_i hg
            cases hn
            obtain ⟨q, hq⟩ := w1 _ _ hg
            exact xo_aald hx hb hE.1 w2 hq (xo_out_in ho) hd (kk H locs cells slots ls ⟨ws, w1, w2, w3, w4, w5, w6⟩ hl rfl)
          · cases hn
      · cases hs
    · cases hs
  · simp only [xo_len, beq_iff_eq] at hlen; subst hlen
    unfold xo_rii at hs
    split at hs
    · try dsimp only at hs
      split at hs
      · rename_i hg
        cases ho : xo_out _ _ with
        | true => rw [ho] at hs; cases hs
        | false =>
          rw [ho] at hs
          cases hs
          obtain ⟨ws, w1, w2, w3, w4, w5, w6⟩ := hw
          obtain ⟨q, hq⟩ := w1 _ _ hg
          exact xo_iast hx hb hE.1 w1 w2 w3 w4 w5 w6 hq (xo_out_in ho) hd (fun H1 locs1 h => kk H1 locs1 cells slots ls h hl rfl)
      · cases hs
    · cases hs
  · simp only [xo_len, beq_iff_eq] at hlen; subst hlen
    unfold xo_rii at hs
    split at hs
    · try dsimp only at hs
      split at hs
      · rename_i hg
        cases ho : xo_out _ _ with
        | true => rw [ho] at hs; cases hs
        | false =>
          rw [ho] at hs
          cases hs
          obtain ⟨ws, w1, w2, w3, w4, w5, w6⟩ := hw
          obtain ⟨q, hq⟩ := w1 _ _ hg
          exact xo_bast hx hb hE.1 w1 w2 w3 w4 w5 w6 hq (xo_out_in ho) hd (fun H1 locs1 h => kk H1 locs1 cells slots ls h hl rfl)
      · rename_i hg
        cases ho : xo_out _ _ with
        | true => rw [ho] at hs; cases hs
        | false =>
          rw [ho] at hs
          cases hs
          obtain ⟨ws, w1, w2, w3, w4, w5, w6⟩ := hw
          obtain ⟨q, hq⟩ := w1 _ _ hg
          exact xo_zast hx hb hE.1 w1 w2 w3 w4 w5 w6 hq (xo_out_in ho) hd (fun H1 locs1 h => kk H1 locs1 cells slots ls h hl rfl)
      · cases hs
    · cases hs
  · simp only [xo_len, beq_iff_eq] at hlen; subst hlen
    unfold xo_ril at hs
    split at hs
    · try dsimp only at hs
      split at hs
      · rename_i hg
        cases ho : xo_out _ _ with
        | true => rw [ho] at hs; cases hs
        | false =>
          rw [ho] at hs
          cases hs
          obtain ⟨ws, w1, w2, w3, w4, w5, w6⟩ := hw
          obtain ⟨q, hq⟩ := w1 _ _ hg
          exact xo_last hx hb hE.1 w1 w2 w3 w4 w5 w6 hq (xo_out_in ho) hd (fun H1 locs1 h => kk H1 locs1 cells slots ls h hl rfl)
      · cases hs
    · cases hs
  · simp only [xo_len, beq_iff_eq] at hlen; subst hlen
    unfold xo_rir at hs
    split at hs
    · try dsimp only at hs
      split at hs
      · rename_i C n f ci F hg hgx
        cases ho : (xo_out _ _ || !(ci == 1) || !(C == "DilemmaProver$Equivalence")) with
        | true => rw [ho] at hs; cases hs
        | false =>
          rw [ho] at hs
          cases hs
          rw [Bool.or_eq_false_iff, Bool.or_eq_false_iff] at ho
          obtain ⟨ws, w1, w2, w3, w4, w5, w6⟩ := hw
          obtain ⟨q, hq⟩ := w1 _ _ hg
          obtain ⟨q2, hq2⟩ := w1 _ _ hgx
          have h1 : ci = 1 := by simpa using ho.1.2
          have h2 : C = "DilemmaProver$Equivalence" := by simpa using ho.2
          subst h1; subst h2
          exact xo_aast hx hb hE.1 w1 w2 w3 w4 w5 w6 hq hq2 (xo_out_in ho.1.1) hd (fun H1 locs1 h => kk H1 locs1 cells slots ls h hl rfl)
      · cases hs
    · cases hs
  · simp only [xo_len, beq_iff_eq] at hlen; subst hlen
    unfold xo_r1 at hs
    split at hs
    · try dsimp only at hs
      rename_i a r
      split at hs
      · rename_i ci j hf
        split at hs
        · rename_i cc F hg
          split at hs
          · rename_i hc
            subst hc
            cases hs
            obtain ⟨f1, f2, f3, f4⟩ := xp_field_spec hf
            obtain ⟨ws, w1, w2, w3, w4, w5, w6⟩ := hw
            obtain ⟨q, hq⟩ := w1 _ _ hg
            exact va_get (C := xp_R cc) (T := xp_T cc) (N := xp_N cc) hx hb hts (xp_u f1) hown hE.1 w2 q hq (xf_vw cc f1) j f2 (hts _ f4) (by rw [f3]; exact fun _ h => h) (xo_fs f2) hd (kk H locs cells slots ls ⟨ws, w1, w2, w3, w4, w5, w6⟩ hl rfl)
          · cases hs
        · cases hs
      · split at hs
        · rename_i j hf1 F c0 hj hg hX
          cases hs
          obtain ⟨ws, w1, w2, w3, w4, w5, w6⟩ := hw
          obtain ⟨-, e2, e3, e4⟩ := hE.2.2.2.2.2.2.2.1 a _ hX
          unfold xo_sf at hj
          split at hj
          · rename_i ho
            have ho : xp_own mid = 8 := by simpa using ho
            rw [ho] at hown
            split at hj
            · rename_i e1; have e1 := eq_of_beq e1; cases hj; subst e1
              exact vk_getf hx hb e3 w4 hown (hts _ (xp_tw_in (List.mem_of_getElem? xf_g_value) rfl)) (fun _ h => h) hd (kk H locs cells slots ls ⟨ws, w1, w2, w3, w4, w5, w6⟩ hl rfl)
            · split at hj
              · rename_i e1; have e1 := eq_of_beq e1; cases hj; subst e1
                exact vk_getf hx hb e4 w4 hown (hts _ (xp_tw_in (List.mem_of_getElem? xf_g_coder) rfl)) (fun _ h => h) hd (kk H locs cells slots ls ⟨ws, w1, w2, w3, w4, w5, w6⟩ hl rfl)
              · cases hj
          · cases hj
        · cases hs
    · cases hs
  · simp only [xo_len, beq_iff_eq] at hlen; subst hlen
    split at hs
    · rename_i v a r
      split at hs
      · rename_i ci j hf
        split at hs
        · rename_i cc F hg
          split at hs
          · rename_i hc
            obtain ⟨hc, hfit, hfin⟩ := hc
            subst hc
            cases hs
            obtain ⟨f1, f2, f3, f4⟩ := xp_field_spec hf
            obtain ⟨ws, w1, w2, w3, w4, w5, w6⟩ := hw
            obtain ⟨q, hq⟩ := w1 _ _ hg
            obtain ⟨g1, g2⟩ := xo_fit_ok hfit
            have ki : ∀ (H1 : Heap) (locs1 : List Loc), va_P D vwCl (ws.set q (a, .inr (cc, ((List.range (xp_N cc)).map F).set j v))) H1 → va_D A (ws.set q (a, .inr (cc, ((List.range (xp_N cc)).map F).set j v))) → va_S A s.heap H1 locs1 → H1.size = H.size → W p l e R s m args below meth c H1 locs1 cells slots Q (F0 m (pc + 3) ls r) := fun H1 locs1 hP hD hS hz => by
              rw [xo_fset] at hP hD
              exact kk H1 locs1 cells slots ls ⟨_, w1.set (c := .inl (cc, va_up F j v)) w3 hq, hP, hD, hS, hz.trans w5, w6⟩ hl rfl
            exact xo_put hx hb hts (xp_u f1) (xp_ty cc) (xf_pd cc f1) (xf_nm cc f1) hown hE.1 w2 w3 w4 (w6.trans w5.symm) q hq (xf_vw cc f1) j f2 (hts _ f4) f3 (fun h => ⟨hini (hfin h).1, by rw [(hfin h).2]; exact f3⟩) (xf_pd cc f1 j f2) g1 g2 (by simpa using f2) hd ki
          · cases hs
        · cases hs
      · cases hs
    · cases hs
  · simp only [xo_len, beq_iff_eq] at hlen; subst hlen
    split at hs
    · rename_i q hq
      cases hs
      obtain ⟨ws, w1, w2, w3, w4, w5, w6⟩ := hw
      obtain ⟨-, -, -, -, -, -, -, -, z0, z1, z2, -⟩ := hE
      unfold xo_gs at hq
      split at hq
      · rename_i ho
        simp only [Bool.and_eq_true, beq_iff_eq] at ho
        cases hq
        rw [ho.1] at hown
        rw [ho.2] at hd
        exact va_gets hx hb z0 w4 hown (hts _ (xp_tw_in (List.mem_of_getElem? xf_g_WORD_PATTERNS) rfl)) (fun _ h => h) hd (kk H locs cells slots ls ⟨ws, w1, w2, w3, w4, w5, w6⟩ hl rfl)
      · split at hq
        · rename_i ho
          simp only [Bool.and_eq_true, beq_iff_eq] at ho
          cases hq
          rw [ho.1] at hown
          rw [ho.2] at hd
          exact va_gets hx hb z1 w4 hown (hts _ (xp_tw_in (List.mem_of_getElem? xf_g_COMPACT_STRINGS) rfl)) (fun _ h => h) hd (kk H locs cells slots ls ⟨ws, w1, w2, w3, w4, w5, w6⟩ hl rfl)
        · split at hq
          · rename_i ho
            simp only [Bool.and_eq_true, beq_iff_eq] at ho
            cases hq
            rw [ho.1] at hown
            rw [ho.2] at hd
            exact va_gets hx hb z2 w4 hown (hts _ (xp_tw_in (List.mem_of_getElem? xf_g_SIOOBE_FORMATTER) rfl)) (fun _ h => h) hd (kk H locs cells slots ls ⟨ws, w1, w2, w3, w4, w5, w6⟩ hl rfl)
          · cases hq
    · cases hs
  · simp only [xo_len, beq_iff_eq] at hlen; subst hlen
    split at hs
    · rename_i hoi
      unfold xo_r1 at hs
      split at hs
      · try dsimp only at hs
        split at hs
        · rename_i hr
          cases hs
          obtain ⟨⟨o1, o2, o3⟩, h1, h2⟩ := List.any_eq_true.mp hoi
          simp only [Bool.and_eq_true, beq_iff_eq] at h2
          have h3 := xf_in (xf_oi _ h1)
          dsimp only at h3
          rw [h2.1, h2.2] at h3
          exact W.objInit hx hb hown (hts _ h3) (hts _ (xf_in xf_ob)) (hts _ xf_oc) rfl (by rw [hml, ← hL]; exact hl.1) rfl hd hfr (by show 2 * 0 + _ + 12 ≤ _; omega) (kk H locs cells slots ls hw hl rfl)
        · cases hs
      · cases hs
    · cases hs
  · simp only [xo_len, beq_iff_eq] at hlen; subst hlen
    split at hs
    · rename_i w hm
      unfold xo_i2 at hs
      split at hs
      · try dsimp only at hs
        split at hs
        · rename_i hr
          cases hs
          obtain ⟨⟨o1, o2, o3, o4⟩, h1, h2, h3⟩ := xp_find2 hm
          simp only [Bool.and_eq_true, beq_iff_eq] at h2
          dsimp only at h3
          subst h3
          obtain ⟨h4, h5⟩ := xf_mx _ h1
          have h4 := xf_in h4
          dsimp only at h4 h5
          rw [h2.1, h2.2] at h4
          rcases h5 with h5 | h5
          · subst h5
            exact va_mmin hx hb (by rw [hml, ← hL]; exact hl.1.symm) hown (hts _ h4) (hts _ (xf_in xf_mw.1)) (hts _ (xf_in xf_mw.2.2)) (hts _ xf_mc.1) hfr (by omega) (by have := hcl; dsimp only at this; omega) (by have := hsl; dsimp only at this; omega) hd (kk H locs cells slots ls hw hl rfl)
          · subst h5
            exact va_mmax hx hb (by rw [hml, ← hL]; exact hl.1.symm) hown (hts _ h4) (hts _ (xf_in xf_mw.2.1)) (hts _ (xf_in xf_mw.2.2)) (hts _ xf_mc.2) hfr (by omega) (by have := hcl; dsimp only at this; omega) (by have := hsl; dsimp only at this; omega) hd (kk H locs cells slots ls hw hl rfl)
        · cases hs
      · cases hs
    · split at hs
      · rename_i hac
        split at hs
        · split at hs
          · rename_i hgb hga
            split at hs
            · rename_i hc
              obtain ⟨c1, c2, c3, c4, c5, c6⟩ := hc
              cases hs
              obtain ⟨ws, w1, w2, w3, w4, w5, w6⟩ := hw
              obtain ⟨q, hq⟩ := w1 _ _ hgb
              obtain ⟨q2, hq2⟩ := w1 _ _ hga
              simp [xp_ac] at hac
              rw [hac.1] at hown
              rw [hac.2] at hd
              exact xo_acopy hx hb (by rw [hml, ← hL]; exact hl.1.symm) hown (hts _ (xf_in xf_arc.1)) (hts _ (xf_in xf_arc.2.1)) (hts _ (xf_in xf_arc.2.2)) (hts _ (xp_tw_in (List.mem_of_getElem? xf_ab3) rfl)) hE.1 w1 w2 w3 w4 w5 w6 hq hq2 c1 c2 c3 c4 c5 hfr (xo_nfw c6 hlo) hd (fun H1 locs1 h => kk H1 locs1 cells slots ls h hl rfl)
            · cases hs
          · cases hs
        · cases hs
      · cases hs
  · simp only [xo_len, beq_iff_eq] at hlen; subst hlen
    split at hs
    · rename_i ci hn
      cases hs
      obtain ⟨⟨o1, o2, o3, o4, o5, o6⟩, h1, h2, h3⟩ := xp_find2 hn
      simp only [Bool.and_eq_true, beq_iff_eq] at h2
      dsimp only at h3
      subst h3
      have h4 := xf_nl _ h1
      simp only [xf_nk, Bool.and_eq_true, decide_eq_true_eq] at h4
      obtain ⟨⟨⟨h4, h5⟩, h6⟩, h7⟩ := h4
      have h4 := xf_in h4
      rw [h2.1, h2.2] at h4
      dsimp only [xo_push] at hcl hsl
      exact xo_new hx hb hts h5 hown (hts _ h4) (hts _ (xf_in h6)) (hts _ (xf_in h7)) hE.1 hA hw (by omega) (by omega) hd (fun H1 h => kk H1 locs (cells + 1) (slots + _) ls h hl (by dsimp only [xo_push]; omega))
    · cases hs
  · simp only [xo_len, beq_iff_eq] at hlen; subst hlen
    unfold xo_i1 at hs
    split at hs
    · try dsimp only at hs
      split at hs
      · cases hs
      · rename_i hc
        split at hs
        · cases hs
          dsimp only [xo_push] at hcl hsl
          exact xo_newa (ty := .int) hx hb (hts _ (xp_tw_in (List.mem_of_getElem? xf_ty_int) rfl)) rfl hE.1 (by simp [xe_tys]) (a0 := fun n => (n, .inl (fun _ => 0))) (fun cA => rfl) rfl hA hw (fun h => hc (Or.inl h)) (by have := Nat.not_lt.mp (fun h => hc (Or.inr h)); simp [componentBytes]; omega) (by omega) (by omega) hd (fun H1 h => kk H1 locs (cells + 1) (slots + _) ls h hl (by dsimp only [xo_push]; omega))
        · cases hs
          dsimp only [xo_push] at hcl hsl
          exact xo_newa (ty := .boolean) hx hb (hts _ (xp_tw_in (List.mem_of_getElem? xf_ty_boolean) rfl)) rfl hE.1 (by simp [xe_tys]) (a0 := fun n => (n, .inl (fun _ => 0))) (fun cA => rfl) rfl hA hw (fun h => hc (Or.inl h)) (by have := Nat.not_lt.mp (fun h => hc (Or.inr h)); simp [componentBytes]; omega) (by omega) (by omega) hd (fun H1 h => kk H1 locs (cells + 1) (slots + _) ls h hl (by dsimp only [xo_push]; omega))
        · cases hs
          dsimp only [xo_push] at hcl hsl
          exact xo_newa (ty := .byte) hx hb (hts _ (xp_tw_in (List.mem_of_getElem? xf_ty_byte) rfl)) rfl hE.1 (by simp [xe_tys]) (a0 := fun n => (n, .inl (fun _ => 0))) (fun cA => rfl) rfl hA hw (fun h => hc (Or.inl h)) (by have := Nat.not_lt.mp (fun h => hc (Or.inr h)); simp [componentBytes]; omega) (by omega) (by omega) hd (fun H1 h => kk H1 locs (cells + 1) (slots + _) ls h hl (by dsimp only [xo_push]; omega))
        · cases hs
          dsimp only [xo_push] at hcl hsl
          exact xo_newa (ty := .long) hx hb (hts _ (xp_tw_in (List.mem_of_getElem? xf_ty_long) rfl)) rfl hE.1 (by simp [xe_tys]) (a0 := fun n => (n, .inr (.inl (fun _ => 0)))) (fun cA => rfl) rfl hA hw (fun h => hc (Or.inl h)) (by have := Nat.not_lt.mp (fun h => hc (Or.inr h)); simp [componentBytes]; omega) (by omega) (by omega) hd (fun H1 h => kk H1 locs (cells + 1) (slots + _) ls h hl (by dsimp only [xo_push]; omega))
        · cases hs
    · cases hs
  · simp only [xo_len, beq_iff_eq] at hlen; subst hlen
    unfold xo_i1 at hs
    split at hs
    · try dsimp only at hs
      split at hs
      · cases hs
      · rename_i hc
        split at hs
        · rename_i ci hn
          split at hs
          · cases hs
          rename_i hc1
          cases hs
          obtain ⟨⟨o1, o2, o3, o4, o5, o6⟩, h1, h2, h3⟩ := xp_find2 hn
          simp only [Bool.and_eq_true, beq_iff_eq] at h2
          dsimp only at h3
          subst h3
          have hc1 : o3 = 1 := Decidable.not_not.mp hc1
          subst hc1
          have h4 := xf_nl _ h1
          simp only [xf_nk, Bool.and_eq_true, decide_eq_true_eq] at h4
          obtain ⟨⟨⟨h4, h5⟩, h6⟩, h7⟩ := h4
          have h4 := xf_in h4
          rw [h2.1, h2.2] at h4
          dsimp only [xo_push] at hcl hsl
          exact xo_anew hx hb hown (hts _ h4) hE hA hw (fun h => hc (Or.inl h)) (by have := Nat.not_lt.mp (fun h => hc (Or.inr h)); omega) (by omega) (by omega) hd (fun H1 h => kk H1 locs (cells + 1) (slots + _) ls h hl (by dsimp only [xo_push]; omega))
        · cases hs
    · cases hs
  · simp only [xo_len, beq_iff_eq] at hlen; subst hlen
    split at hs
    · split at hs
      · rename_i hc
        obtain ⟨q1, q2, q3, q4, q5, q6, q7⟩ := hc
        cases hs
        subst q2
        subst q3
        dsimp only [xo_grid] at hcl hsl
        have e0 : xp_R 0 = "DilemmaProver$Circuit" := rfl
        rw [q1, e0] at hown
        exact xo_mna hx hb hown (hts _ (xp_tw_in (List.mem_of_getElem? xf_mn1) rfl)) (hts _ (xp_tw_in (List.mem_of_getElem? xf_ty_int) rfl)) hE hA hw q5 q4 q6 q7 (by omega) (by omega) hd (fun H1 h => kk H1 locs _ _ ls h hl (by dsimp only [xo_grid]; omega))
      · cases hs
    · cases hs
  · cases hs
end XS
