/-! THE ABSTRACT MACHINE: the bytecode of the program run over cells that are functions; its runs are the machine's (part 05) -/
def xp_get (mid : Nat) : xp_M := xp_mt.getD mid xp_d
def xp_nm (mid : Nat) : MethodName := (xp_get mid).1
def xp_code (mid : Nat) : ByteArray := (xp_get mid).2.1
def xp_ml (mid : Nat) : Nat := (xp_get mid).2.2.1
def xp_rt (mid : Nat) : Option FieldType := (xp_get mid).2.2.2.1
def xp_own (mid : Nat) : Nat := (xp_get mid).2.2.2.2.1
def xp_np (mid : Nat) : Nat := (xp_get mid).2.2.2.2.2.1
def xp_st (mid : Nat) : Bool := (xp_get mid).2.2.2.2.2.2
def xp_call (own k : Nat) : Option Nat := (xp_cl.find? fun q => q.1 == own && q.2.1 == k).map fun q => q.2.2.1
def xp_ncall (own k : Nat) : Option Nat := (xp_nc.find? fun q => q.1 == own && q.2.1 == k).map fun q => q.2.2
def xp_field (own k : Nat) : Option (Nat × Nat) := (xp_fl.find? fun q => q.1 == own && q.2.1 == k).map fun q => (q.2.2.1, q.2.2.2.1)
def xp_new (own k : Nat) : Option Nat := (xp_nl.find? fun q => q.1 == own && q.2.1 == k).map fun q => q.2.2.1
def xp_math (own k : Nat) : Option Nat := (xp_mx.find? fun q => q.1 == own && q.2.1 == k).map fun q => q.2.2.1
def xp_N (ci : Nat) : Nat := ((vwCl[ci]?).map fun q => q.2.2).getD 0
def xp_T (ci : Nat) : u_T := ((vwCl[ci]?).map fun q => q.2.1).getD TX0
def xp_ty (ci k : Nat) : FieldType := (parseFieldDescriptor (xp_T ci k).2.2.1).getD .int
def xp_fin (ci k : Nat) : Bool := (xp_T ci k).2.2.2
abbrev xo_C : Type := (Nat × (Nat → Value)) ⊕ (FieldType × vp_A)
abbrev xo_G : Type := (Nat → Option xo_C) × Nat × Nat
abbrev xo_L : Type := List (Option Value)
abbrev xo_K : Type := Nat × xo_L × List Value × xo_G
/-- what is only read: arrays of ints, bytes, longs; texts (objects); statics, addresses of the texts -/
abbrev xo_X : Type := (Nat → Option (Nat × (Nat → Int32))) × (Nat → Option (Nat × (Nat → Int32))) × (Nat → Option (Nat × (Nat → Int64))) × (Nat → Option (Nat × (Nat → Value))) × (Nat → Value) × (Nat → Nat)
def xo_set (g : xo_G) (a : Nat) (c : xo_C) : xo_G := (va_up g.1 a (some c), g.2)
def xo_push (g : xo_G) (c : xo_C) (n : Nat) : xo_G := (va_up g.1 g.2.1 (some c), g.2.1 + 1, g.2.2 + n)
def xo_ob (X : xo_X) (g : xo_G) (a : Nat) : Option (Nat × (Nat → Value)) := match g.1 a with
  | some (.inl o) => some o
  | some (.inr _) => none
  | none => X.2.2.2.1 a
def xo_ri (X : xo_X) (g : xo_G) (a : Nat) : Option (Nat × (Nat → Int32)) := match g.1 a with
  | some (.inr (.int, (n, .inl f))) => some (n, f)
  | some _ => none
  | none => X.1 a
def xo_rb (X : xo_X) (g : xo_G) (a : Nat) : Option (Nat × (Nat → Int32)) := match g.1 a with
  | some (.inr (.byte, (n, .inl f))) => some (n, f)
  | some (.inr (.boolean, (n, .inl f))) => some (n, f)
  | some _ => none
  | none => X.2.1 a
def xo_rl (X : xo_X) (g : xo_G) (a : Nat) : Option (Nat × (Nat → Int64)) := match g.1 a with
  | some (.inr (.long, (n, .inr (.inl f)))) => some (n, f)
  | some _ => none
  | none => X.2.2.1 a
def xo_rq (g : xo_G) (a : Nat) : Option (Nat × (Nat → Option Nat)) := match g.1 a with
  | some (.inr (.object C, (n, .inr (.inr (.inr (.inr f)))))) => if C = "DilemmaProver$Equivalence" then some (n, f) else none
  | some (.inr (.array .int, (n, .inr (.inr (.inr (.inr f)))))) => some (n, f)
  | _ => none
def xo_al (X : xo_X) (g : xo_G) (a : Nat) : Option Nat := match g.1 a with
  | some (.inr (.int, x)) => some x.1
  | some _ => none
  | none => match X.1 a with
    | some q => some q.1
    | none => match X.2.1 a with
      | some q => some q.1
      | none => (X.2.2.1 a).map fun q => q.1
def xo_fit (ty : FieldType) (v : Value) : Bool := match ty, v with
  | .int, .int _ => true
  | .boolean, .int x => x == 0 || x == 1
  | .long, .long _ => true
  | .object _, .ref _ => true
  | .array _, .ref _ => true
  | _, _ => false
def xo_ld (L : xo_L) (k : Nat) : Option Value := match L[k]? with
  | some (some v) => some v
  | _ => none
def xo_nl (L : xo_L) (k : Nat) : Bool := match k with
  | 0 => true
  | j + 1 => match L[j]? with
    | some (some v) => v.category == 1
    | _ => true
def xo_i1 (st : List Value) (k : Int32 → List Value → Option xo_K) : Option xo_K := match st with
  | .int x :: r => k x r
  | _ => none
def xo_i2 (st : List Value) (k : Int32 → Int32 → List Value → Option xo_K) : Option xo_K := match st with
  | .int y :: .int x :: r => k x y r
  | _ => none
def xo_l1 (st : List Value) (k : Int64 → List Value → Option xo_K) : Option xo_K := match st with
  | .long x :: r => k x r
  | _ => none
def xo_l2 (st : List Value) (k : Int64 → Int64 → List Value → Option xo_K) : Option xo_K := match st with
  | .long y :: .long x :: r => k x y r
  | _ => none
def xo_li (st : List Value) (k : Int64 → Int32 → List Value → Option xo_K) : Option xo_K := match st with
  | .int y :: .long x :: r => k x y r
  | _ => none
def xo_r1 (st : List Value) (k : Nat → List Value → Option xo_K) : Option xo_K := match st with
  | .ref a :: r => k a r
  | _ => none
def xo_ri1 (st : List Value) (k : Nat → Int32 → List Value → Option xo_K) : Option xo_K := match st with
  | .int i :: .ref a :: r => k a i r
  | _ => none
def xo_rii (st : List Value) (k : Nat → Int32 → Int32 → List Value → Option xo_K) : Option xo_K := match st with
  | .int x :: .int i :: .ref a :: r => k a i x r
  | _ => none
def xo_ril (st : List Value) (k : Nat → Int32 → Int64 → List Value → Option xo_K) : Option xo_K := match st with
  | .long x :: .int i :: .ref a :: r => k a i x r
  | _ => none
def xo_rir (st : List Value) (k : Nat → Int32 → Nat → List Value → Option xo_K) : Option xo_K := match st with
  | .ref x :: .int i :: .ref a :: r => k a i x r
  | _ => none
def xo_jmp (pc : Nat) (off : Int) (L : xo_L) (st : List Value) (g : xo_G) : Option xo_K := if 0 ≤ (pc : Int) + off then some (((pc : Int) + off).toNat, L, st, g) else none
def xo_bra (pc : Nat) (off : Int) (b : Bool) (L : xo_L) (st : List Value) (g : xo_G) : Option xo_K := if 0 ≤ (pc : Int) + off then (bif b then some (((pc : Int) + off).toNat, L, st, g) else some (pc + 3, L, st, g)) else none
def xo_cnd (c : ClassFile.Cond) (x y : Int32) : Bool := match c with
  | .eq => decide (x = y)
  | .ne => decide (¬ x = y)
  | .lt => decide (x < y)
  | .ge => decide (y ≤ x)
  | .gt => decide (y < x)
  | .le => decide (x ≤ y)
def xo_out (i : Int32) (n : Nat) : Bool := decide (i < 0) || decide (n ≤ i.toNatClampNeg)
def xo_sto (L : xo_L) (k : Nat) (v : Value) (pc : Nat) (r : List Value) (g : xo_G) : Option xo_K := if decide (k < L.length) && xo_nl L k then some (pc, L.set k (some v), r, g) else none
def xo_stl (L : xo_L) (k : Nat) (v : Value) (pc : Nat) (r : List Value) (g : xo_G) : Option xo_K := if decide (k + 1 < L.length) && xo_nl L k then some (pc, (L.set k (some v)).set (k + 1) none, r, g) else none
def xo_ki (own k : Nat) : Option Int32 := if own == 14 && k == 264 then some 65536 else none
def xo_kl (own k : Nat) : Option Int64 := if own == 4 && k == 45 then some (-1) else if own == 15 && k == 13 then some 4294967295 else none
def xo_ks (own k : Nat) : Option Nat := if own == 2 then (if k == 125 then some 0 else if k == 135 then some 1 else if k == 137 then some 2 else if k == 139 then some 3 else none) else none
def xo_gs (own k : Nat) : Option Nat := if own == 4 && k == 67 then some 0 else if own == 8 && k == 38 then some 1 else if own == 8 && k == 1053 then some 2 else none
def xo_sf (own k : Nat) : Option Nat := if own == 8 then (if k == 9 then some 0 else if k == 15 then some 1 else none) else none
def xo_df (ty : FieldType) : Value := match ty with
  | .int => .int 0
  | .boolean => .int 0
  | .long => .long 0
  | _ => .null
/-- an array of n arrays of m ints -/
def xo_grid (g : xo_G) (n m : Nat) : xo_G := (fun a => if a = g.2.1 then some (.inr (.array .int, (n, .inr (.inr (.inr (.inr (fun i => if i < n then some (g.2.1 + 1 + i) else none))))))) else if g.2.1 < a ∧ a < g.2.1 + 1 + n then some (.inr (.int, (m, .inl (fun _ => 0)))) else g.1 a, g.2.1 + 1 + n, g.2.2 + n + n * m)
/-- one instruction that neither calls nor returns -/
def xo_stp (X : xo_X) (mid : Nat) (i : Instr) (pc : Nat) (L : xo_L) (st : List Value) (g : xo_G) : Option xo_K := match i with
  | .iconst n => some (pc + 1, L, .int (Int32.ofInt n) :: st, g)
  | .bipush n => some (pc + 2, L, .int (Int8.ofInt n).toInt32 :: st, g)
  | .sipush n => some (pc + 3, L, .int (Int16.ofInt n).toInt32 :: st, g)
  | .lconst n => some (pc + 1, L, .long (Int64.ofNat (n : Nat)) :: st, g)
  | .ldc k => match xo_ks (xp_own mid) k with
    | some q => some (pc + 2, L, .ref (X.2.2.2.2.2 q) :: st, g)
    | none => none
  | .ldc_w k => match xo_ki (xp_own mid) k with
    | some v => some (pc + 3, L, .int v :: st, g)
    | none => none
  | .ldc2_w k => match xo_kl (xp_own mid) k with
    | some v => some (pc + 3, L, .long v :: st, g)
    | none => none
  | .iload_n k => match xo_ld L k with
    | some (.int x) => some (pc + 1, L, .int x :: st, g)
    | _ => none
  | .iload k => match xo_ld L k with
    | some (.int x) => some (pc + 2, L, .int x :: st, g)
    | _ => none
  | .lload_n k => match xo_ld L k with
    | some (.long x) => some (pc + 1, L, .long x :: st, g)
    | _ => none
  | .lload k => match xo_ld L k with
    | some (.long x) => some (pc + 2, L, .long x :: st, g)
    | _ => none
  | .aload_n k => match xo_ld L k with
    | some (.ref x) => some (pc + 1, L, .ref x :: st, g)
    | _ => none
  | .aload k => match xo_ld L k with
    | some (.ref x) => some (pc + 2, L, .ref x :: st, g)
    | _ => none
  | .istore_n k => xo_i1 st fun x r => xo_sto L k (.int x) (pc + 1) r g
  | .istore k => xo_i1 st fun x r => xo_sto L k (.int x) (pc + 2) r g
  | .astore_n k => xo_r1 st fun x r => xo_sto L k (.ref x) (pc + 1) r g
  | .astore k => xo_r1 st fun x r => xo_sto L k (.ref x) (pc + 2) r g
  | .lstore_n k => xo_l1 st fun x r => xo_stl L k (.long x) (pc + 1) r g
  | .lstore k => xo_l1 st fun x r => xo_stl L k (.long x) (pc + 2) r g
  | .iinc k n => match xo_ld L k with
    | some (.int x) => xo_sto L k (.int (x + Int32.ofInt n)) (pc + 3) st g
    | _ => none
  | .iadd => xo_i2 st fun x y r => some (pc + 1, L, .int (x + y) :: r, g)
  | .isub => xo_i2 st fun x y r => some (pc + 1, L, .int (x - y) :: r, g)
  | .imul => xo_i2 st fun x y r => some (pc + 1, L, .int (x * y) :: r, g)
  | .iand => xo_i2 st fun x y r => some (pc + 1, L, .int (x &&& y) :: r, g)
  | .ior => xo_i2 st fun x y r => some (pc + 1, L, .int (x ||| y) :: r, g)
  | .ixor => xo_i2 st fun x y r => some (pc + 1, L, .int (x ^^^ y) :: r, g)
  | .ishl => xo_i2 st fun x y r => some (pc + 1, L, .int (x <<< (y &&& 31)) :: r, g)
  | .ishr => xo_i2 st fun x y r => some (pc + 1, L, .int (x >>> (y &&& 31)) :: r, g)
  | .iushr => xo_i2 st fun x y r => some (pc + 1, L, .int ((x.toUInt32 >>> (y.toUInt32 &&& Int32.toUInt32 31)).toInt32) :: r, g)
  | .land => xo_l2 st fun x y r => some (pc + 1, L, .long (x &&& y) :: r, g)
  | .lor => xo_l2 st fun x y r => some (pc + 1, L, .long (x ||| y) :: r, g)
  | .lxor => xo_l2 st fun x y r => some (pc + 1, L, .long (x ^^^ y) :: r, g)
  | .lneg => xo_l1 st fun x r => some (pc + 1, L, .long (-x) :: r, g)
  | .lshl => xo_li st fun x y r => some (pc + 1, L, .long (x <<< (y.toInt64 &&& 63)) :: r, g)
  | .lshr => xo_li st fun x y r => some (pc + 1, L, .long (x >>> (y.toInt64 &&& 63)) :: r, g)
  | .lushr => xo_li st fun x y r => some (pc + 1, L, .long ((x.toUInt64 >>> (y.toInt64.toUInt64 &&& Int64.toUInt64 63)).toInt64) :: r, g)
  | .i2l => xo_i1 st fun x r => some (pc + 1, L, .long x.toInt64 :: r, g)
  | .l2i => xo_l1 st fun x r => some (pc + 1, L, .int x.toInt32 :: r, g)
  | .i2b => xo_i1 st fun x r => some (pc + 1, L, .int x.toInt8.toInt32 :: r, g)
  | .i2c => xo_i1 st fun x r => some (pc + 1, L, .int (x.toUInt32 % 65536).toInt32 :: r, g)
  | .pop => match st with
    | v :: r => if v.category = 1 then some (pc + 1, L, r, g) else none
    | _ => none
  | .dup => match st with
    | v :: r => if v.category = 1 then some (pc + 1, L, v :: v :: r, g) else none
    | _ => none
  | .dup2 => match st with
    | v :: w :: r => if v.category = 1 ∧ w.category = 1 then some (pc + 1, L, v :: w :: v :: w :: r, g) else none
    | _ => none
  | .lcmp => xo_l2 st fun x y r => some (pc + 1, L, .int (lg_cmp x y) :: r, g)
  | .ifCond c off => xo_i1 st fun x r => xo_bra pc off (xo_cnd c x 0) L r g
  | .if_icmp c off => xo_i2 st fun x y r => xo_bra pc off (xo_cnd c x y) L r g
  | .goto off => xo_jmp pc off L st g
  | .tableswitch dflt lo hi offs => xo_i1 st fun x r => if x.toInt < lo ∨ hi < x.toInt then xo_jmp pc dflt L r g else match offs[(x.toInt - lo).toNat]? with
    | some off => xo_jmp pc off L r g
    | none => none
  | .lookupswitch dflt ps => xo_i1 st fun x r => if (ps.toList.zip (ps.toList.drop 1)).all (fun (a, next) => a.1 < next.1) = true then xo_jmp pc (Op.lookupswitch.offset ps.toList dflt x.toInt) L r g else none
  | .arraylength => xo_r1 st fun a r => match xo_al X g a with
    | some n => some (pc + 1, L, .int (Int32.ofNat n) :: r, g)
    | none => none
  | .iaload => xo_ri1 st fun a i r => match xo_ri X g a with
    | some (n, f) => bif xo_out i n then none else some (pc + 1, L, .int (f i.toNatClampNeg) :: r, g)
    | none => none
  | .baload => xo_ri1 st fun a i r => match xo_rb X g a with
    | some (n, f) => bif xo_out i n then none else some (pc + 1, L, .int (f i.toNatClampNeg) :: r, g)
    | none => none
  | .laload => xo_ri1 st fun a i r => match xo_rl X g a with
    | some (n, f) => bif xo_out i n then none else some (pc + 1, L, .long (f i.toNatClampNeg) :: r, g)
    | none => none
  | .aaload => xo_ri1 st fun a i r => match xo_rq g a with
    | some (n, f) => bif xo_out i n then none else some (pc + 1, L, va_rf (f i.toNatClampNeg) :: r, g)
    | none => none
  | .iastore => xo_rii st fun a i x r => match g.1 a with
    | some (.inr (.int, (n, .inl f))) => bif xo_out i n then none else some (pc + 1, L, r, xo_set g a (.inr (.int, (n, .inl (upd f i.toNatClampNeg x)))))
    | _ => none
  | .bastore => xo_rii st fun a i x r => match g.1 a with
    | some (.inr (.byte, (n, .inl f))) => bif xo_out i n then none else some (pc + 1, L, r, xo_set g a (.inr (.byte, (n, .inl (upd f i.toNatClampNeg (vp_nar .byte x))))))
    | some (.inr (.boolean, (n, .inl f))) => bif xo_out i n then none else some (pc + 1, L, r, xo_set g a (.inr (.boolean, (n, .inl (upd f i.toNatClampNeg (vp_nar .boolean x))))))
    | _ => none
  | .lastore => xo_ril st fun a i x r => match g.1 a with
    | some (.inr (.long, (n, .inr (.inl f)))) => bif xo_out i n then none else some (pc + 1, L, r, xo_set g a (.inr (.long, (n, .inr (.inl (vp_updL f i.toNatClampNeg x))))))
    | _ => none
  | .aastore => xo_rir st fun a i x r => match g.1 a, g.1 x with
    | some (.inr (.object C, (n, .inr (.inr (.inr (.inr f)))))), some (.inl (ci, _)) => bif xo_out i n || !(ci == 1) || !(C == "DilemmaProver$Equivalence") then none else some (pc + 1, L, r, xo_set g a (.inr (.object C, (n, .inr (.inr (.inr (.inr (va_up f i.toNatClampNeg (some x)))))))))
    | _, _ => none
  | .getfield k => xo_r1 st fun a r => match xp_field (xp_own mid) k with
    | some (ci, j) => (match g.1 a with
      | some (.inl (c, F)) => if c = ci then some (pc + 3, L, F j :: r, g) else none
      | _ => none)
    | none => match xo_sf (xp_own mid) k, g.1 a, X.2.2.2.1 a with
      | some j, none, some (_, F) => some (pc + 3, L, F j :: r, g)
      | _, _, _ => none
  | .putfield k => match st with
    | v :: .ref a :: r => (match xp_field (xp_own mid) k with
      | some (ci, j) => (match g.1 a with
        | some (.inl (c, F)) => if c = ci ∧ xo_fit (xp_ty ci j) v = true ∧ (xp_fin ci j = true → (xp_nm mid).name = "<init>" ∧ xp_own mid = ci) then some (pc + 3, L, r, xo_set g a (.inl (ci, va_up F j v))) else none
        | _ => none)
      | none => none)
    | _ => none
  | .getstatic k => match xo_gs (xp_own mid) k with
    | some q => some (pc + 3, L, X.2.2.2.2.1 q :: st, g)
    | none => none
  | .invokespecial k => if xp_oi.any (fun q => q.1 == xp_own mid && q.2.1 == k) = true then xo_r1 st fun _ r => (if (r.map fun v => v.category).sum ≤ 8 then some (pc + 3, L, r, g) else none) else none
  | .invokestatic k => match xp_math (xp_own mid) k with
    | some w => xo_i2 st fun x y r => (if (r.map fun v => v.category).sum ≤ 8 then some (pc + 3, L, .int (if w = 0 then (if y < x then y else x) else (if x < y then y else x)) :: r, g) else none)
    | none => if xp_ac.contains (xp_own mid, k) = true then (match st with
      | .int n :: .int dp :: .ref a :: .int sp :: .ref b :: r => (match g.1 b, g.1 a with
        | some (.inr (.int, (n0, .inl f))), some (.inr (.int, (n1, .inl h))) => if ¬ sp < 0 ∧ ¬ dp < 0 ∧ ¬ n < 0 ∧ sp.toNatClampNeg + n.toNatClampNeg ≤ n0 ∧ dp.toNatClampNeg + n.toNatClampNeg ≤ n1 ∧ (r.map fun v => v.category).sum ≤ 8 then some (pc + 3, L, r, xo_set g a (.inr (.int, (n1, .inl (va_cpy f h sp.toNatClampNeg dp.toNatClampNeg n.toNatClampNeg))))) else none
        | _, _ => none)
      | _ => none) else none
  | .new k => match xp_new (xp_own mid) k with
    | some ci => some (pc + 3, L, .ref g.2.1 :: st, xo_push g (.inl (ci, fun j => xo_df (xp_ty ci j))) (xp_N ci))
    | none => none
  | .newarray t => xo_i1 st fun n r => if n < 0 ∨ 100000 < n.toNatClampNeg then none else match t with
    | .int => some (pc + 2, L, .ref g.2.1 :: r, xo_push g (.inr (.int, (n.toNatClampNeg, .inl (fun _ => 0)))) n.toNatClampNeg)
    | .boolean => some (pc + 2, L, .ref g.2.1 :: r, xo_push g (.inr (.boolean, (n.toNatClampNeg, .inl (fun _ => 0)))) n.toNatClampNeg)
    | .byte => some (pc + 2, L, .ref g.2.1 :: r, xo_push g (.inr (.byte, (n.toNatClampNeg, .inl (fun _ => 0)))) n.toNatClampNeg)
    | .long => some (pc + 2, L, .ref g.2.1 :: r, xo_push g (.inr (.long, (n.toNatClampNeg, .inr (.inl (fun _ => 0))))) n.toNatClampNeg)
    | _ => none
  | .anewarray k => xo_i1 st fun n r => if n < 0 ∨ 100000 < n.toNatClampNeg then none else match xp_new (xp_own mid) k with
    | some ci => if ¬ ci = 1 then none else some (pc + 3, L, .ref g.2.1 :: r, xo_push g (.inr (.object "DilemmaProver$Equivalence", (n.toNatClampNeg, .inr (.inr (.inr (.inr (fun _ => none))))))) n.toNatClampNeg)
    | none => none
  | .multianewarray k q => match st with
    | .int m :: .int n :: r => if xp_own mid = 0 ∧ k = 24 ∧ q = 2 ∧ ¬ m < 0 ∧ ¬ n < 0 ∧ n.toNatClampNeg ≤ 100000 ∧ m.toNatClampNeg ≤ 100000 then some (pc + 4, L, .ref g.2.1 :: r, xo_grid g n.toNatClampNeg m.toNatClampNeg) else none
    | _ => none
  | _ => none
def xo_len (i : Instr) (len : Nat) : Bool := match i with
  | .iconst _ | .lconst _ | .iload_n _ | .lload_n _ | .aload_n _ | .istore_n _ | .astore_n _ | .lstore_n _ | .iadd | .isub | .imul | .iand | .ior | .ixor | .ishl | .ishr | .iushr | .land | .lor | .lxor | .lneg | .lshl | .lshr | .lushr | .i2l | .l2i | .i2b | .i2c | .pop | .dup | .dup2 | .lcmp | .arraylength | .iaload | .baload | .laload | .aaload | .iastore | .bastore | .lastore | .aastore | .ireturn | .lreturn | .return_ => len == 1
  | .bipush _ | .ldc _ | .iload _ | .lload _ | .aload _ | .istore _ | .astore _ | .lstore _ | .newarray _ => len == 2
  | .tableswitch _ _ _ _ | .lookupswitch _ _ => true
  | .multianewarray _ _ => len == 4
  | _ => len == 3
/-- a call: the method, its arguments (the receiver first), what stays on the stack -/
def xo_inv (X : xo_X) (mid : Nat) (i : Instr) (st : List Value) (g : xo_G) : Option (Nat × List Value × List Value) := match i with
  | .invokevirtual k => match xp_call (xp_own mid) k with
    | some q => if xp_st q = false ∧ (xp_nm q).name ≠ "<init>" then (match st.drop (xp_np q) with
      | .ref b :: r => (match xo_ob X g b with
        | some (c, _) => if c = xp_own q ∧ (r.map fun v => v.category).sum ≤ 8 then some (q, .ref b :: (st.take (xp_np q)).reverse, r) else none
        | none => none)
      | _ => none) else none
    | none => none
  | .invokestatic k => match xp_call (xp_own mid) k with
    | some q => if xp_st q = true ∧ xp_np q ≤ st.length ∧ ((st.drop (xp_np q)).map fun v => v.category).sum ≤ 8 then some (q, (st.take (xp_np q)).reverse, st.drop (xp_np q)) else none
    | none => none
  | .invokespecial k => match (xp_call (xp_own mid) k <|> xp_ncall (xp_own mid) k) with
    | some q => if xp_st q = false ∧ (xp_nm q).name = "<init>" then (match st.drop (xp_np q) with
      | .ref b :: r => if (r.map fun v => v.category).sum ≤ 8 then some (q, .ref b :: (st.take (xp_np q)).reverse, r) else none
      | _ => none) else none
    | none => none
  | _ => none
def xo_rt (mid : Nat) (i : Instr) (st : List Value) : Option (Option Value) := match i with
  | .ireturn => match st, xp_rt mid with
    | [.int v], some .int => some (some (.int v))
    | [.int v], some .boolean => if v = 0 ∨ v = 1 then some (some (.int v)) else none
    | [.int v], some .byte => if v.toInt8.toInt32 = v then some (some (.int v)) else none
    | [.int v], some .char => if (v.toUInt32 % 65536).toInt32 = v then some (some (.int v)) else none
    | _, _ => none
  | .lreturn => match st, xp_rt mid with
    | [.long v], some .long => some (some (.long v))
    | _, _ => none
  | .return_ => match st, xp_rt mid with
    | [], none => some none
    | _, _ => none
  | _ => none
def xo_sl : List Value → xo_L
  | [] => []
  | v :: vs => if v.category = 2 then some v :: none :: xo_sl vs else some v :: xo_sl vs
def xo_ent (n : Nat) (vs : List Value) : xo_L := xo_sl vs ++ List.replicate (n - (xo_sl vs).length) none
def xo_exec (X : xo_X) : Nat → Nat → Nat → Nat → xo_L → List Value → xo_G → Option (Option Value × xo_G)
  | 0, _, _, _, _, _, _ => none
  | n + 1, d, mid, pc, L, st, g => match decode (xp_code mid) pc with
    | .ok (i, len) => bif xo_len i len then (match xo_rt mid i st with
      | some r => some (r, g)
      | none => (match xo_inv X mid i st g with
        | some (q, as, rest) => (match d with
          | 0 => none
          | d' + 1 => if (xo_sl as).length ≤ xp_ml q then (match xo_exec X n d' q 0 (xo_ent (xp_ml q) as) [] g with
            | some (r, g') => xo_exec X n (d' + 1) mid (pc + 3) L (r.toList ++ rest) g'
            | none => none) else none)
        | none => (match xo_stp X mid i pc L st g with
          | some k => xo_exec X n d mid k.1 k.2.1 k.2.2.1 k.2.2.2
          | none => none))) else none
    | .error _ => none
