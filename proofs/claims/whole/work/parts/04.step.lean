/-! E: fields (pool number ↦ class, slot, kind); constants (k: ldc; 100000 + k: a static; 200000 + k: a field of the text at 300000's); classes (for new; 100: an array of Field); own rows (0: Object's init, 1: Math.min, 2: the array class at 100000 + kind, 4: a static reference at 200000 + k, 7: arraycopy, 8: clone, 9: a cast at 300000 + k, 10: Math.max); the kind of the answer -/
abbrev zE : Type := List (Nat × (Nat × Nat × Nat)) × List (Nat × Value) × List (Nat × Nat) × List (Nat × Nat) × Nat
abbrev zK : Type := Nat → zL → List Value → zH → Nat → Nat → Prop
def z_i1 (st : List Value) (k : Int32 → List Value → Prop) : Prop := match st with
  | .int x :: r => k x r
  | _ => False
def z_i2 (st : List Value) (k : Int32 → Int32 → List Value → Prop) : Prop := match st with
  | .int y :: .int x :: r => k x y r
  | _ => False
def z_l2 (st : List Value) (k : Int64 → Int64 → List Value → Prop) : Prop := match st with
  | .long y :: .long x :: r => k x y r
  | _ => False
def z_li (st : List Value) (k : Int64 → Int32 → List Value → Prop) : Prop := match st with
  | .int y :: .long x :: r => k x y r
  | _ => False
def z_l1 (st : List Value) (k : Int64 → List Value → Prop) : Prop := match st with
  | .long x :: r => k x r
  | _ => False
def z_r1 (st : List Value) (k : Nat → List Value → Prop) : Prop := match st with
  | .ref a :: r => k a r
  | _ => False
def z_ri (st : List Value) (k : Nat → Int32 → List Value → Prop) : Prop := match st with
  | .int i :: .ref a :: r => k a i r
  | _ => False
def z_rii (st : List Value) (k : Nat → Int32 → Int32 → List Value → Prop) : Prop := match st with
  | .int x :: .int i :: .ref a :: r => k a i x r
  | _ => False
def z_rir (st : List Value) (k : Nat → Int32 → Nat → List Value → Prop) : Prop := match st with
  | .ref v :: .int i :: .ref a :: r => k a i v r
  | _ => False
def z_rv (st : List Value) (k : Nat → Value → List Value → Prop) : Prop := match st with
  | v :: .ref a :: r => k a v r
  | _ => False
def z_v1 (st : List Value) (k : Value → List Value → Prop) : Prop := match st with
  | v :: r => z_isl v = false ∧ k v r
  | _ => False
def z_v2 (st : List Value) (k : Value → Value → List Value → Prop) : Prop := match st with
  | v :: w :: r => z_isl v = false ∧ z_isl w = false ∧ k v w r
  | _ => False
def z_int (o : Option Value) (k : Int32 → Prop) : Prop := match o with
  | some (.int x) => k x
  | _ => False
def z_lng (o : Option Value) (k : Int64 → Prop) : Prop := match o with
  | some (.long x) => k x
  | _ => False
def z_rf (o : Option Value) (k : Value → Prop) : Prop := match o with
  | some (.ref a) => k (.ref a)
  | some .null => k .null
  | _ => False
def z_rfs (st : List Value) (k : Value → List Value → Prop) : Prop := match st with
  | .ref a :: r => k (.ref a) r
  | .null :: r => k .null r
  | _ => False
def z_nul (st : List Value) (kn : List Value → Prop) (kr : List Value → Prop) : Prop := match st with
  | .ref _ :: r => kr r
  | .null :: r => kn r
  | _ => False
def z_acp (st : List Value) (k : Nat → Int32 → Nat → Int32 → Int32 → List Value → Prop) : Prop := match st with
  | .int n :: .int dp :: .ref d :: .int sp :: .ref a :: r => k a sp d dp n r
  | _ => False
def z_sm {α : Type} (o : Option α) (k : α → Prop) : Prop := match o with
  | some x => k x
  | none => False
/-- an object of class ci at a -/
def z_obj (o : Option (Nat × zC)) (ci : Nat) (k : Nat → List Value → Prop) : Prop := match o with
  | some (t, .inr (c, fs)) => c = ci ∧ k t fs
  | _ => False
/-- a row of numbers -/
def z_row (o : Option (Nat × zC)) (k : Nat → Nat → Nat → (Nat → Int32) → Prop) : Prop := match o with
  | some (t, .inl (kd, n, .inl g)) => k t kd n g
  | _ => False
/-- a row of references to fields -/
def z_rrw (o : Option (Nat × zC)) (k : Nat → Nat → (Nat → Option Nat) → Prop) : Prop := match o with
  | some (t, .inl (3, n, .inr (.inr (.inr (.inr g))))) => k t n g
  | _ => False
def z_len (o : Option (Nat × zC)) (k : Nat → Prop) : Prop := match o with
  | some (_, .inl (_, x)) => k x.1
  | _ => False
def z_cmp (c : ClassFile.Cond) (x y : Int32) : Prop := match c with
  | .eq => x = y
  | .ne => ¬ x = y
  | .lt => x < y
  | .ge => y ≤ x
  | .gt => y < x
  | .le => x ≤ y
def z_tg (pc : Nat) (off : Int) : Nat := ((pc : Int) + off).toNat
def z_ak (t : ArrayType) : Nat := match t with
  | .byte => 0
  | .int => 1
  | .boolean => 2
  | _ => 9
def z_step (E : zE) (X : Nat → Option (Nat × Nat × (Nat → Int32))) (mc ms nL : Nat) (i : Instr) (pc : Nat) (lv : zL) (st : List Value) (h : zH) (cs sl : Nat) (NX : zL → List Value → zH → Nat → Nat → Prop) (K : zK) (KR : Option Value → zH → Nat → Nat → Prop) : Prop := match i with
  | .iconst k => NX lv (.int (Int32.ofInt k) :: st) h cs sl
  | .bipush k => NX lv (.int (Int8.ofInt k).toInt32 :: st) h cs sl
  | .sipush k => NX lv (.int (Int16.ofInt k).toInt32 :: st) h cs sl
  | .ldc x => x < 100000 ∧ z_sm (z_lk E.2.1 x) (fun v => NX lv (v :: st) h cs sl)
  | .getstatic x => x < 100000 ∧ (match z_lk E.2.1 (100000 + x) with
    | some v => NX lv (v :: st) h cs sl
    | none => z_lk E.2.2.2.1 (200000 + x) = some 4 ∧ ∀ v : Value, (v = .null ∨ ∃ a : Nat, v = .ref a) → NX lv (v :: st) h cs sl)
  | .iload_n k => z_int (z_lk lv k.val) (fun x => NX lv (.int x :: st) h cs sl)
  | .iload k => z_int (z_lk lv k) (fun x => NX lv (.int x :: st) h cs sl)
  | .lload_n k => z_lng (z_lk lv k.val) (fun x => NX lv (.long x :: st) h cs sl)
  | .aload_n k => z_rf (z_lk lv k.val) (fun v => NX lv (v :: st) h cs sl)
  | .aload k => z_rf (z_lk lv k) (fun v => NX lv (v :: st) h cs sl)
  | .istore_n k => z_i1 st (fun x r => k.val < nL ∧ NX (z_sto lv k.val (.int x)) r h cs sl)
  | .istore k => z_i1 st (fun x r => k < nL ∧ NX (z_sto lv k (.int x)) r h cs sl)
  | .astore_n k => z_rfs st (fun v r => k.val < nL ∧ NX (z_sto lv k.val v) r h cs sl)
  | .astore k => z_rfs st (fun v r => k < nL ∧ NX (z_sto lv k v) r h cs sl)
  | .iinc k d => z_int (z_lk lv k) (fun x => k < nL ∧ NX (z_sto lv k (.int (x + Int32.ofInt d))) st h cs sl)
  | .iadd => z_i2 st (fun x y r => NX lv (.int (x + y) :: r) h cs sl)
  | .isub => z_i2 st (fun x y r => NX lv (.int (x - y) :: r) h cs sl)
  | .imul => z_i2 st (fun x y r => NX lv (.int (x * y) :: r) h cs sl)
  | .iand => z_i2 st (fun x y r => NX lv (.int (x &&& y) :: r) h cs sl)
  | .ior => z_i2 st (fun x y r => NX lv (.int (x ||| y) :: r) h cs sl)
  | .ishl => z_i2 st (fun x y r => NX lv (.int (x <<< (y &&& 31)) :: r) h cs sl)
  | .ishr => z_i2 st (fun x y r => NX lv (.int (x >>> (y &&& 31)) :: r) h cs sl)
  | .idiv => z_i2 st (fun x y r => ¬ y = 0 ∧ NX lv (.int (x / y) :: r) h cs sl)
  | .irem => z_i2 st (fun x y r => ¬ y = 0 ∧ NX lv (.int (x - x / y * y) :: r) h cs sl)
  | .i2l => z_i1 st (fun x r => NX lv (.long x.toInt64 :: r) h cs sl)
  | .l2i => z_l1 st (fun x r => NX lv (.int x.toInt32 :: r) h cs sl)
  | .i2b => z_i1 st (fun x r => NX lv (.int x.toInt8.toInt32 :: r) h cs sl)
  | .i2c => z_i1 st (fun x r => NX lv (.int (x.toUInt32 % 65536).toInt32 :: r) h cs sl)
  | .lor => z_l2 st (fun x y r => NX lv (.long (x ||| y) :: r) h cs sl)
  | .land => z_l2 st (fun x y r => NX lv (.long (x &&& y) :: r) h cs sl)
  | .lshl => z_li st (fun x y r => NX lv (.long (x <<< (y.toInt64 &&& 63)) :: r) h cs sl)
  | .lshr => z_li st (fun x y r => NX lv (.long (x >>> (y.toInt64 &&& 63)) :: r) h cs sl)
  | .lushr => z_li st (fun x y r => NX lv (.long (x.toUInt64 >>> (y.toInt64.toUInt64 &&& Int64.toUInt64 63)).toInt64 :: r) h cs sl)
  | .dup => z_v1 st (fun v r => NX lv (v :: v :: r) h cs sl)
  | .dup2 => z_v2 st (fun v w r => NX lv (v :: w :: v :: w :: r) h cs sl)
  | .pop => z_v1 st (fun _ r => NX lv r h cs sl)
  | .aconst_null => NX lv (.null :: st) h cs sl
  | .goto off => K (z_tg pc off) lv st h cs sl
  | .if_icmp c off => z_i2 st (fun x y r => (z_cmp c x y → K (z_tg pc off) lv r h cs sl) ∧ (¬ z_cmp c x y → NX lv r h cs sl))
  | .ifCond c off => z_i1 st (fun x r => (z_cmp c x 0 → K (z_tg pc off) lv r h cs sl) ∧ (¬ z_cmp c x 0 → NX lv r h cs sl))
  | .ifnull off => z_nul st (fun r => K (z_tg pc off) lv r h cs sl) (fun r => NX lv r h cs sl)
  | .ifnonnull off => z_nul st (fun r => NX lv r h cs sl) (fun r => K (z_tg pc off) lv r h cs sl)
  | .tableswitch d lo hi os => z_i1 st (fun x r => (∀ j : Fin os.size, x.toInt = lo + j.val → K (z_tg pc os[j]) lv r h cs sl) ∧ (x.toInt < lo ∨ hi < x.toInt → K (z_tg pc d) lv r h cs sl))
  | .getfield x => x < 100000 ∧ z_r1 st (fun a r => match z_lk E.2.1 (200000 + x) with
    | some v => z_lk E.2.1 300000 = some (.ref a) ∧ NX lv (v :: r) h cs sl
    | none => z_sm (z_lk E.1 x) (fun q => z_obj (h a) q.1 (fun _ fs => z_sm (fs[q.2.1]?) (fun v => NX lv (v :: r) h cs sl))))
  | .putfield x => z_rv st (fun a v r => z_sm (z_lk E.1 x) (fun q => z_fit q.2.2 v ∧ z_obj (h a) q.1 (fun t fs => q.2.1 < fs.length ∧ NX lv r (va_up h a (some (t, .inr (q.1, fs.set q.2.1 v)))) cs sl)))
  | .arraylength => z_r1 st (fun a r => match X a with
    | some q => NX lv (.int (nI q.2.1) :: r) h cs sl
    | none => z_len (h a) (fun n => NX lv (.int (nI n) :: r) h cs sl))
  | .iaload => z_ri st (fun a i r => match X a with
    | some q => q.1 = 1 ∧ vp_in i q.2.1 ∧ NX lv (.int (q.2.2 i.toNatClampNeg) :: r) h cs sl
    | none => z_row (h a) (fun _ kd n g => kd = 1 ∧ vp_in i n ∧ NX lv (.int (g i.toNatClampNeg) :: r) h cs sl))
  | .baload => z_ri st (fun a i r => match X a with
    | some q => q.1 = 0 ∧ vp_in i q.2.1 ∧ NX lv (.int (q.2.2 i.toNatClampNeg) :: r) h cs sl
    | none => z_row (h a) (fun _ kd n g => (kd = 0 ∨ kd = 2) ∧ vp_in i n ∧ NX lv (.int (g i.toNatClampNeg) :: r) h cs sl))
  | .aaload => z_ri st (fun a i r => z_rrw (h a) (fun _ n g => vp_in i n ∧ NX lv (va_rf (g i.toNatClampNeg) :: r) h cs sl))
  | .iastore => z_rii st (fun a i x r => z_row (h a) (fun t kd n g => kd = 1 ∧ vp_in i n ∧ NX lv r (va_up h a (some (t, .inl (1, n, .inl (upd g i.toNatClampNeg x))))) cs sl))
  | .bastore => z_rii st (fun a i x r => z_row (h a) (fun t kd n g => (kd = 0 ∨ kd = 2) ∧ vp_in i n ∧ NX lv r (va_up h a (some (t, .inl (kd, n, .inl (upd g i.toNatClampNeg (vp_nar (z_ty kd) x)))))) cs sl))
  | .aastore => z_rir st (fun a i v r => z_rrw (h a) (fun t n g => z_obj (h v) 0 (fun _ _ => vp_in i n ∧ NX lv r (va_up h a (some (t, .inl (3, n, .inr (.inr (.inr (.inr (va_up g i.toNatClampNeg (some v)))))))) ) cs sl)))
  | .newarray ty => z_i1 st (fun x r => z_ak ty < 3 ∧ z_lk E.2.2.2.1 (100000 + z_ak ty) = some 2 ∧ ¬ x < 0 ∧ x.toNatClampNeg ≤ 1000000 ∧ cs + 1 ≤ mc ∧ sl + x.toNatClampNeg ≤ ms ∧ ∃ t : Nat, ∀ q : Nat, h q = none → NX lv (.ref q :: r) (va_up h q (some (t, .inl (z_ak ty, x.toNatClampNeg, .inl (fun _ => 0))))) (cs + 1) (sl + x.toNatClampNeg))
  | .anewarray y => z_i1 st (fun x r => z_lk E.2.2.1 y = some 100 ∧ ¬ x < 0 ∧ x.toNatClampNeg ≤ 1000000 ∧ cs + 1 ≤ mc ∧ sl + x.toNatClampNeg ≤ ms ∧ ∃ t : Nat, ∀ q : Nat, h q = none → NX lv (.ref q :: r) (va_up h q (some (t, .inl (3, x.toNatClampNeg, .inr (.inr (.inr (.inr (fun _ => none)))))))) (cs + 1) (sl + x.toNatClampNeg))
  | .new y => z_sm (z_lk E.2.2.1 y) (fun ci => ci < 8 ∧ cs + 1 ≤ mc ∧ sl + z_N ci ≤ ms ∧ ∃ t : Nat, ∀ q : Nat, h q = none → NX lv (.ref q :: st) (va_up h q (some (t, .inr (ci, z_df ci)))) (cs + 1) (sl + z_N ci))
  | .invokespecial y => z_r1 st (fun _ r => z_lk E.2.2.2.1 y = some 0 ∧ r = [] ∧ NX lv r h cs sl)
  | .invokestatic y => match z_lk E.2.2.2.1 y with
    | some 1 => z_i2 st (fun x y' r => r.length ≤ 3 ∧ cs ≤ mc ∧ sl ≤ ms ∧ NX lv (.int (if y' < x then y' else x) :: r) h cs sl)
    | some 10 => z_i2 st (fun x y' r => r.length ≤ 3 ∧ cs ≤ mc ∧ sl ≤ ms ∧ NX lv (.int (if x < y' then y' else x) :: r) h cs sl)
    | some 7 => z_acp st (fun a sp d dp k r => r = [] ∧ z_row (h a) (fun _ kd n0 f => kd = 1 ∧ z_row (h d) (fun t kd' n1 g => kd' = 1 ∧ ¬ sp < 0 ∧ ¬ dp < 0 ∧ ¬ k < 0 ∧ sp.toNatClampNeg + k.toNatClampNeg ≤ n0 ∧ dp.toNatClampNeg + k.toNatClampNeg ≤ n1 ∧ NX lv r (va_up h d (some (t, .inl (1, n1, .inl (va_cpy f g sp.toNatClampNeg dp.toNatClampNeg k.toNatClampNeg))))) cs sl)))
    | _ => False
  | .invokevirtual y => z_r1 st (fun a r => z_lk E.2.2.2.1 y = some 8 ∧ r = [] ∧ z_row (h a) (fun _ kd n g => kd = 1 ∧ cs + 1 ≤ mc ∧ sl + n ≤ ms ∧ ∃ t : Nat, ∀ q : Nat, h q = none → NX lv (.ref q :: r) (va_up h q (some (t, .inl (1, n, .inl g)))) (cs + 1) (sl + n)))
  | .checkcast y => z_r1 st (fun a r => z_lk E.2.2.2.1 (300000 + y) = some 9 ∧ z_row (h a) (fun _ kd _ _ => kd = 1 ∧ NX lv (.ref a :: r) h cs sl))
  | .iushr => z_i2 st (fun x y r => NX lv (.int (x.toUInt32 >>> (y.toUInt32 &&& Int32.toUInt32 31)).toInt32 :: r) h cs sl)
  | .return_ => E.2.2.2.2 = 0 ∧ st = [] ∧ cs ≤ mc ∧ sl ≤ ms ∧ KR none h cs sl
  | .ireturn => z_i1 st (fun x r => r = [] ∧ (E.2.2.2.2 = 1 ∨ (E.2.2.2.2 = 2 ∧ (x = 0 ∨ x = 1)) ∨ (E.2.2.2.2 = 4 ∧ narrow .char (.int x) = .int x) ∨ (E.2.2.2.2 = 5 ∧ narrow .byte (.int x) = .int x)) ∧ cs ≤ mc ∧ sl ≤ ms ∧ KR (some (.int x)) h cs sl)
  | .areturn => z_rfs st (fun v r => r = [] ∧ E.2.2.2.2 = 3 ∧ cs ≤ mc ∧ sl ≤ ms ∧ KR (some v) h cs sl)
  | _ => False
def z_wp (E : zE) (X : Nat → Option (Nat × Nat × (Nat → Int32))) (mc ms nL : Nat) (K : zK) (KR : Option Value → zH → Nat → Nat → Prop) : List (Instr × Nat) → zK
  | [], pc, lv, st, h, cs, sl => K pc lv st h cs sl
  | i :: is, pc, lv, st, h, cs, sl => z_step E X mc ms nL i.1 pc lv st h cs sl (fun lv st h cs sl => z_wp E X mc ms nL K KR is (pc + i.2) lv st h cs sl) K KR
def z_ok (pc : Nat) (i : Instr) (n : Nat) : Bool := match i with
  | .bipush _ | .iload _ | .istore _ | .aload _ | .astore _ | .ldc _ | .newarray _ => n == 2
  | .sipush _ | .getfield _ | .putfield _ | .new _ | .iinc _ _ | .anewarray _ | .invokespecial _ | .invokestatic _ | .invokevirtual _ | .checkcast _ | .getstatic _ => n == 3
  | .goto off | .if_icmp _ off | .ifCond _ off | .ifnull off | .ifnonnull off => n == 3 && decide (0 ≤ (pc : Int) + off)
  | .tableswitch d lo hi os => decide (0 ≤ (pc : Int) + d) && os.all (fun o => decide (0 ≤ (pc : Int) + o)) && decide (hi = lo + os.size - 1)
  | _ => n == 1
def z_cd (cc : ByteArray) : Nat → List (Instr × Nat) → Bool
  | _, [] => true
  | pc, i :: is => decide (decode cc pc = .ok i) && z_ok pc i.1 i.2 && z_cd cc (pc + i.2) is
