/-! E: fields (pool number ↦ class, slot, kind); constants (k: ldc; 100000 + k: a static; 200000 + k: a field of the text at 300000's); classes (for new; 100: an array of Field); own rows (0: Object's init, 1: Math.min, 2: the array class at 100000 + kind, 4: a static reference at 200000 + k, 7: arraycopy, 8: clone, 9: a cast at 300000 + k, 10: Math.max); the kind of the answer -/
abbrev zE : Type := List (Nat × (Nat × Nat × Nat)) × List (Nat × Value) × List (Nat × Nat) × List (Nat × Nat) × Nat
abbrev zK : Type := Nat → zL → List Value → zH → Nat → Nat → Prop
def z_i1 (st : List Value) (k : Int32 → List Value → Prop) : Prop := match st with
  | .int x :: r => k x r
  | _ => False
def z_i2 (st : List Value) (k : Int32 → Int32 → List Value → Prop) : Prop := match st with
  | .int y :: .int x :: r => k x y r
  | _ => False
def z_l2 (st : List Value) (k : Int64 → Int64 → List Value → Prop) : Prop := match st with
  | .long y :: .long x :: r => k x y r
  | _ => False
def z_li (st : List Value) (k : Int64 → Int32 → List Value → Prop) : Prop := match st with
  | .int y :: .long x :: r => k x y r
  | _ => False
def z_l1 (st : List Value) (k : Int64 → List Value → Prop) : Prop := match st with
  | .long x :: r => k x r
  | _ => False
def z_r1 (st : List Value) (k : Nat → List Value → Prop) : Prop := match st with
  | .ref a :: r => k a r
  | _ => False
def z_ri (st : List Value) (k : Nat → Int32 → List Value → Prop) : Prop := match st with
  | .int i :: .ref a :: r => k a i r
  | _ => False
def z_rii (st : List Value) (k : Nat → Int32 → Int32 → List Value → Prop) : Prop := match st with
  | .int x :: .int i :: .ref a :: r => k a i x r
  | _ => False
def z_rir (st : List Value) (k : Nat → Int32 → Nat → List Value → Prop) : Prop := match st with
  | .ref v :: .int i :: .ref a :: r => k a i v r
  | _ => False
def z_rv (st : List Value) (k : Nat → Value → List Value → Prop) : Prop := match st with
  | v :: .ref a :: r => k a v r
  | _ => False
def z_v1 (st : List Value) (k : Value → List Value → Prop) : Prop := match st with
  | v :: r => z_isl v = false ∧ k v r
  | _ => False
def z_v2 (st : List Value) (k : Value → Value → List Value → Prop) : Prop := match st with
  | v :: w :: r => z_isl v = false ∧ z_isl w = false ∧ k v w r
  | _ => False
def z_int (o : Option Value) (k : Int32 → Prop) : Prop := match o with
  | some (.int x) => k x
  | _ => False
def z_lng (o : Option Value) (k : Int64 → Prop) : Prop := match o with
  | some (.long x) => k x
  | _ => False
def z_rf (o : Option Value) (k : Value → Prop) : Prop := match o with
  | some (.ref a) => k (.ref a)
  | some .null => k .null
  | _ => False
def z_rfs (st : List Value) (k : Value → List Value → Prop) : Prop := match st with
  | .ref a :: r => k (.ref a) r
  | .null :: r => k .null r
  | _ => False
def z_nul (st : List Value) (kn : List Value → Prop) (kr : List Value → Prop) : Prop := match st with
  | .ref _ :: r => kr r
  | .null :: r => kn r
  | _ => False
def z_acp (st : List Value) (k : Nat → Int32 → Nat → Int32 → Int32 → List Value → Prop) : Prop := match st with
  | .int n :: .int dp :: .ref d :: .int sp :: .ref a :: r => k a sp d dp n r
  | _ => False
def z_sm {α : Type} (o : Option α) (k : α → Prop) : Prop := match o with
  | some x => k x
  | none => False
/-- an object of class ci at a -/
def z_obj (o : Option (Nat × zC)) (ci : Nat) (k : Nat → List Value → Prop) : Prop := match o with
  | some (t, .inr (c, fs)) => c = ci ∧ k t fs
  | _ => False
/-- a row of numbers -/
def z_row (o : Option (Nat × zC)) (k : Nat → Nat → Nat → (Nat → Int32) → Prop) : Prop := match o with
  | some (t, .inl (kd, n, .inl g)) => k t kd n g
  | _ => False
/-- a row of numbers, ours or one that nobody writes -/
def z_rdx (o : Option (Nat × zC)) (x : Option (Nat × Nat × (Nat → Int32))) (k : Nat → Nat → (Nat → Int32) → Prop) : Prop := match o, x with
  | some (_, .inl (kd, n, .inl g)), _ => k kd n g
  | none, some q => k q.1 q.2.1 q.2.2
  | _, _ => False
/-- a row of references to fields -/
def z_rrw (o : Option (Nat × zC)) (k : Nat → Nat → (Nat → Option Nat) → Prop) : Prop := match o with
  | some (t, .inl (3, n, .inr (.inr (.inr (.inr g))))) => k t n g
  | _ => False
def z_len (o : Option (Nat × zC)) (x : Option (Nat × Nat × (Nat → Int32))) (k : Nat → Prop) : Prop := match o, x with
  | some (_, .inl (_, x)), _ => k x.1
  | none, some q => k q.2.1
  | _, _ => False
def z_oc {α : Type} (o : Option α) (ks : α → Prop) (kn : Prop) : Prop := match o with
  | some x => ks x
  | none => kn
def z_bs (o : Option Nat) (k1 k10 k7 : Prop) : Prop := match o with
  | some 1 => k1
  | some 10 => k10
  | some 7 => k7
  | _ => False
def z_cmp (c : ClassFile.Cond) (x y : Int32) : Prop := match c with
  | .eq => x = y
  | .ne => ¬ x = y
  | .lt => x < y
  | .ge => y ≤ x
  | .gt => y < x
  | .le => x ≤ y
def z_tg (pc : Nat) (off : Int) : Nat := ((pc : Int) + off).toNat
def z_ak (t : ArrayType) : Nat := match t with
  | .byte => 0
  | .int => 1
  | .boolean => 2
  | _ => 9
def z_step (E : zE) (X : Nat → Option (Nat × Nat × (Nat → Int32))) (mc ms nL : Nat) (i : Instr) (pc : Nat) (lv : zL) (st : List Value) (h : zH) (cs sl : Nat) (NX : zL → List Value → zH → Nat → Nat → Prop) (K : zK) (KR : Option Value → zH → Nat → Nat → Prop) : Prop := match i with
  | .iconst k => NX lv (.int (Int32.ofInt k) :: st) h cs sl
  | .bipush k => NX lv (.int (Int8.ofInt k).toInt32 :: st) h cs sl
  | .sipush k => NX lv (.int (Int16.ofInt k).toInt32 :: st) h cs sl
  | .ldc x => x < 100000 ∧ z_sm (z_lk E.2.1 x) (fun v => NX lv (v :: st) h cs sl)
  | .getstatic x => x < 100000 ∧ z_oc (z_lk E.2.1 (100000 + x)) (fun v => NX lv (v :: st) h cs sl) (z_lk E.2.2.2.1 (200000 + x) = some 4 ∧ ∀ v : Value, (v = .null ∨ ∃ a : Nat, v = .ref a) → NX lv (v :: st) h cs sl)
  | .iload_n k => z_int (z_lk lv k.val) (fun x => NX lv (.int x :: st) h cs sl)
  | .iload k => z_int (z_lk lv k) (fun x => NX lv (.int x :: st) h cs sl)
  | .lload_n k => z_lng (z_lk lv k.val) (fun x => NX lv (.long x :: st) h cs sl)
  | .aload_n k => z_rf (z_lk lv k.val) (fun v => NX lv (v :: st) h cs sl)
  | .aload k => z_rf (z_lk lv k) (fun v => NX lv (v :: st) h cs sl)
  | .istore_n k => z_i1 st (fun x r => k.val < nL ∧ NX (z_sto lv k.val (.int x)) r h cs sl)
  | .istore k => z_i1 st (fun x r => k < nL ∧ NX (z_sto lv k (.int x)) r h cs sl)
  | .astore_n k => z_rfs st (fun v r => k.val < nL ∧ NX (z_sto lv k.val v) r h cs sl)
  | .astore k => z_rfs st (fun v r => k < nL ∧ NX (z_sto lv k v) r h cs sl)
  | .iinc k d => z_int (z_lk lv k) (fun x => k < nL ∧ NX (z_sto lv k (.int (x + Int32.ofInt d))) st h cs sl)
  | .iadd => z_i2 st (fun x y r => NX lv (.int (x + y) :: r) h cs sl)
  | .isub => z_i2 st (fun x y r => NX lv (.int (x - y) :: r) h cs sl)
  | .imul => z_i2 st (fun x y r => NX lv (.int (x * y) :: r) h cs sl)
  | .iand => z_i2 st (fun x y r => NX lv (.int (x &&& y) :: r) h cs sl)
  | .ior => z_i2 st (fun x y r => NX lv (.int (x ||| y) :: r) h cs sl)
  | .ishl => z_i2 st (fun x y r => NX lv (.int (x <<< (y &&& 31)) :: r) h cs sl)
  | .ishr => z_i2 st (fun x y r => NX lv (.int (x >>> (y &&& 31)) :: r) h cs sl)
  | .idiv => z_i2 st (fun x y r => ¬ y = 0 ∧ NX lv (.int (x / y) :: r) h cs sl)
  | .irem => z_i2 st (fun x y r => ¬ y = 0 ∧ NX lv (.int (x - x / y * y) :: r) h cs sl)
  | .i2l => z_i1 st (fun x r => NX lv (.long x.toInt64 :: r) h cs sl)
  | .l2i => z_l1 st (fun x r => NX lv (.int x.toInt32 :: r) h cs sl)
  | .i2b => z_i1 st (fun x r => NX lv (.int x.toInt8.toInt32 :: r) h cs sl)
  | .i2c => z_i1 st (fun x r => NX lv (.int (x.toUInt32 % 65536).toInt32 :: r) h cs sl)
  | .lor => z_l2 st (fun x y r => NX lv (.long (x ||| y) :: r) h cs sl)
  | .land => z_l2 st (fun x y r => NX lv (.long (x &&& y) :: r) h cs sl)
  | .lshl => z_li st (fun x y r => NX lv (.long (x <<< (y.toInt64 &&& 63)) :: r) h cs sl)
  | .lshr => z_li st (fun x y r => NX lv (.long (x >>> (y.toInt64 &&& 63)) :: r) h cs sl)
  | .lushr => z_li st (fun x y r => NX lv (.long (x.toUInt64 >>> (y.toInt64.toUInt64 &&& Int64.toUInt64 63)).toInt64 :: r) h cs sl)
  | .dup => z_v1 st (fun v r => NX lv (v :: v :: r) h cs sl)
  | .dup2 => z_v2 st (fun v w r => NX lv (v :: w :: v :: w :: r) h cs sl)
  | .pop => z_v1 st (fun _ r => NX lv r h cs sl)
  | .aconst_null => NX lv (.null :: st) h cs sl
  | .goto off => K (z_tg pc off) lv st h cs sl
  | .if_icmp c off => z_i2 st (fun x y r => (z_cmp c x y → K (z_tg pc off) lv r h cs sl) ∧ (¬ z_cmp c x y → NX lv r h cs sl))
  | .ifCond c off => z_i1 st (fun x r => (z_cmp c x 0 → K (z_tg pc off) lv r h cs sl) ∧ (¬ z_cmp c x 0 → NX lv r h cs sl))
  | .ifnull off => z_nul st (fun r => K (z_tg pc off) lv r h cs sl) (fun r => NX lv r h cs sl)
  | .ifnonnull off => z_nul st (fun r => NX lv r h cs sl) (fun r => K (z_tg pc off) lv r h cs sl)
  | .tableswitch d lo hi os => z_i1 st (fun x r => (∀ j : Fin os.size, x.toInt = lo + j.val → K (z_tg pc os[j]) lv r h cs sl) ∧ (x.toInt < lo ∨ hi < x.toInt → K (z_tg pc d) lv r h cs sl))
  | .getfield x => x < 100000 ∧ z_r1 st (fun a r => z_oc (z_lk E.2.1 (200000 + x)) (fun v => z_lk E.2.1 300000 = some (.ref a) ∧ NX lv (v :: r) h cs sl) (z_sm (z_lk E.1 x) (fun q => z_obj (h a) q.1 (fun _ fs => z_sm (fs[q.2.1]?) (fun v => NX lv (v :: r) h cs sl)))))
  | .putfield x => z_rv st (fun a v r => z_sm (z_lk E.1 x) (fun q => z_fit q.2.2 v ∧ z_obj (h a) q.1 (fun t fs => q.2.1 < fs.length ∧ NX lv r (va_up h a (some (t, .inr (q.1, fs.set q.2.1 v)))) cs sl)))
  | .arraylength => z_r1 st (fun a r => z_len (h a) (X a) (fun n => NX lv (.int (nI n) :: r) h cs sl))
  | .iaload => z_ri st (fun a i r => z_rdx (h a) (X a) (fun kd n g => kd = 1 ∧ vp_in i n ∧ NX lv (.int (g i.toNatClampNeg) :: r) h cs sl))
  | .baload => z_ri st (fun a i r => z_rdx (h a) (X a) (fun kd n g => (kd = 0 ∨ kd = 2) ∧ vp_in i n ∧ NX lv (.int (g i.toNatClampNeg) :: r) h cs sl))
  | .aaload => z_ri st (fun a i r => z_rrw (h a) (fun _ n g => vp_in i n ∧ NX lv (va_rf (g i.toNatClampNeg) :: r) h cs sl))
  | .iastore => z_rii st (fun a i x r => z_row (h a) (fun t kd n g => kd = 1 ∧ vp_in i n ∧ NX lv r (va_up h a (some (t, .inl (1, n, .inl (upd g i.toNatClampNeg x))))) cs sl))
  | .bastore => z_rii st (fun a i x r => z_row (h a) (fun t kd n g => (kd = 0 ∨ kd = 2) ∧ vp_in i n ∧ NX lv r (va_up h a (some (t, .inl (kd, n, .inl (upd g i.toNatClampNeg (vp_nar (z_ty kd) x)))))) cs sl))
  | .aastore => z_rir st (fun a i v r => z_rrw (h a) (fun t n g => z_obj (h v) 0 (fun _ _ => vp_in i n ∧ NX lv r (va_up h a (some (t, .inl (3, n, .inr (.inr (.inr (.inr (va_up g i.toNatClampNeg (some v)))))))) ) cs sl)))
  | .newarray ty => z_i1 st (fun x r => z_ak ty < 3 ∧ z_lk E.2.2.2.1 (100000 + z_ak ty) = some 2 ∧ ¬ x < 0 ∧ x.toNatClampNeg ≤ 1000000 ∧ cs + 1 ≤ mc ∧ sl + x.toNatClampNeg ≤ ms ∧ ∃ t : Nat, ∀ q : Nat, h q = none → NX lv (.ref q :: r) (va_up h q (some (t, .inl (z_ak ty, x.toNatClampNeg, .inl (fun _ => 0))))) (cs + 1) (sl + x.toNatClampNeg))
  | .anewarray y => z_i1 st (fun x r => z_lk E.2.2.1 y = some 100 ∧ ¬ x < 0 ∧ x.toNatClampNeg ≤ 1000000 ∧ cs + 1 ≤ mc ∧ sl + x.toNatClampNeg ≤ ms ∧ ∃ t : Nat, ∀ q : Nat, h q = none → NX lv (.ref q :: r) (va_up h q (some (t, .inl (3, x.toNatClampNeg, .inr (.inr (.inr (.inr (fun _ => none)))))))) (cs + 1) (sl + x.toNatClampNeg))
  | .new y => z_sm (z_lk E.2.2.1 y) (fun ci => ci < 8 ∧ cs + 1 ≤ mc ∧ sl + z_N ci ≤ ms ∧ ∃ t : Nat, ∀ q : Nat, h q = none → NX lv (.ref q :: st) (va_up h q (some (t, .inr (ci, z_df ci)))) (cs + 1) (sl + z_N ci))
  | .invokespecial y => z_r1 st (fun _ r => z_lk E.2.2.2.1 y = some 0 ∧ r = [] ∧ NX lv r h cs sl)
  | .invokestatic y => z_bs (z_lk E.2.2.2.1 y) (z_i2 st (fun x y' r => r.length ≤ 4 ∧ cs ≤ mc ∧ sl ≤ ms ∧ NX lv (.int (if y' < x then y' else x) :: r) h cs sl)) (z_i2 st (fun x y' r => r.length ≤ 4 ∧ cs ≤ mc ∧ sl ≤ ms ∧ NX lv (.int (if x < y' then y' else x) :: r) h cs sl)) (z_acp st (fun a sp d dp k r => r = [] ∧ z_row (h a) (fun _ kd n0 f => kd = 1 ∧ z_row (h d) (fun t kd' n1 g => kd' = 1 ∧ ¬ sp < 0 ∧ ¬ dp < 0 ∧ ¬ k < 0 ∧ sp.toNatClampNeg + k.toNatClampNeg ≤ n0 ∧ dp.toNatClampNeg + k.toNatClampNeg ≤ n1 ∧ NX lv r (va_up h d (some (t, .inl (1, n1, .inl (va_cpy f g sp.toNatClampNeg dp.toNatClampNeg k.toNatClampNeg))))) cs sl))))
  | .invokevirtual y => z_r1 st (fun a r => z_lk E.2.2.2.1 y = some 8 ∧ r = [] ∧ z_row (h a) (fun _ kd n g => kd = 1 ∧ cs + 1 ≤ mc ∧ sl + n ≤ ms ∧ ∃ t : Nat, ∀ q : Nat, h q = none → NX lv (.ref q :: r) (va_up h q (some (t, .inl (1, n, .inl g)))) (cs + 1) (sl + n)))
  | .checkcast y => z_r1 st (fun a r => z_lk E.2.2.2.1 (300000 + y) = some 9 ∧ z_row (h a) (fun _ kd _ _ => kd = 1 ∧ NX lv (.ref a :: r) h cs sl))
  | .iushr => z_i2 st (fun x y r => NX lv (.int (x.toUInt32 >>> (y.toUInt32 &&& Int32.toUInt32 31)).toInt32 :: r) h cs sl)
  | .return_ => E.2.2.2.2 = 0 ∧ st = [] ∧ cs ≤ mc ∧ sl ≤ ms ∧ KR none h cs sl
  | .ireturn => z_i1 st (fun x r => r = [] ∧ (E.2.2.2.2 = 1 ∨ (E.2.2.2.2 = 2 ∧ (x = 0 ∨ x = 1)) ∨ (E.2.2.2.2 = 4 ∧ narrow .char (.int x) = .int x) ∨ (E.2.2.2.2 = 5 ∧ narrow .byte (.int x) = .int x)) ∧ cs ≤ mc ∧ sl ≤ ms ∧ KR (some (.int x)) h cs sl)
  | .areturn => z_rfs st (fun v r => r = [] ∧ E.2.2.2.2 = 3 ∧ cs ≤ mc ∧ sl ≤ ms ∧ KR (some v) h cs sl)
  | _ => False
def z_wp (E : zE) (X : Nat → Option (Nat × Nat × (Nat → Int32))) (mc ms nL : Nat) (K : zK) (KR : Option Value → zH → Nat → Nat → Prop) : List (Instr × Nat) → zK
  | [], pc, lv, st, h, cs, sl => K pc lv st h cs sl
  | i :: is, pc, lv, st, h, cs, sl => z_step E X mc ms nL i.1 pc lv st h cs sl (fun lv st h cs sl => z_wp E X mc ms nL K KR is (pc + i.2) lv st h cs sl) K KR
def z_ok (pc : Nat) (i : Instr) (n : Nat) : Bool := match i with
  | .bipush _ | .iload _ | .istore _ | .aload _ | .astore _ | .ldc _ | .newarray _ => n == 2
  | .sipush _ | .getfield _ | .putfield _ | .new _ | .iinc _ _ | .anewarray _ | .invokespecial _ | .invokestatic _ | .invokevirtual _ | .checkcast _ | .getstatic _ => n == 3
  | .goto off | .if_icmp _ off | .ifCond _ off | .ifnull off | .ifnonnull off => n == 3 && decide (0 ≤ (pc : Int) + off)
  | .tableswitch d lo hi os => decide (0 ≤ (pc : Int) + d) && os.all (fun o => decide (0 ≤ (pc : Int) + o)) && decide (hi = lo + os.size - 1)
  | _ => n == 1
def z_cd (cc : ByteArray) : Nat → List (Instr × Nat) → Bool
  | _, [] => true
  | pc, i :: is => decide (decode cc pc = .ok i) && z_ok pc i.1 i.2 && z_cd cc (pc + i.2) is
section ZL
variable {E : zE} {X : Nat → Option (Nat × Nat × (Nat → Int32))} {mc ms nL pc : Nat} {lv : zL} {st : List Value} {h : zH} {cs sl : Nat} {NX : zL → List Value → zH → Nat → Nat → Prop} {K : zK} {KR : Option Value → zH → Nat → Nat → Prop}
theorem zs_iconst {k : Int} : z_step E X mc ms nL (.iconst k) pc lv st h cs sl NX K KR = (NX lv (.int (Int32.ofInt k) :: st) h cs sl) := rfl
theorem zs_bipush {k : Int} : z_step E X mc ms nL (.bipush k) pc lv st h cs sl NX K KR = (NX lv (.int (Int8.ofInt k).toInt32 :: st) h cs sl) := rfl
theorem zs_sipush {k : Int} : z_step E X mc ms nL (.sipush k) pc lv st h cs sl NX K KR = (NX lv (.int (Int16.ofInt k).toInt32 :: st) h cs sl) := rfl
theorem zs_ldc {x : Nat} : z_step E X mc ms nL (.ldc x) pc lv st h cs sl NX K KR = (x < 100000 ∧ z_sm (z_lk E.2.1 x) (fun v => NX lv (v :: st) h cs sl)) := rfl
theorem zs_getstatic {x : Nat} : z_step E X mc ms nL (.getstatic x) pc lv st h cs sl NX K KR = (x < 100000 ∧ z_oc (z_lk E.2.1 (100000 + x)) (fun v => NX lv (v :: st) h cs sl) (z_lk E.2.2.2.1 (200000 + x) = some 4 ∧ ∀ v : Value, (v = .null ∨ ∃ a : Nat, v = .ref a) → NX lv (v :: st) h cs sl)) := rfl
theorem zs_iload_n {k : Fin 4} : z_step E X mc ms nL (.iload_n k) pc lv st h cs sl NX K KR = (z_int (z_lk lv k.val) (fun x => NX lv (.int x :: st) h cs sl)) := rfl
theorem zs_iload {k : Nat} : z_step E X mc ms nL (.iload k) pc lv st h cs sl NX K KR = (z_int (z_lk lv k) (fun x => NX lv (.int x :: st) h cs sl)) := rfl
theorem zs_lload_n {k : Fin 4} : z_step E X mc ms nL (.lload_n k) pc lv st h cs sl NX K KR = (z_lng (z_lk lv k.val) (fun x => NX lv (.long x :: st) h cs sl)) := rfl
theorem zs_aload_n {k : Fin 4} : z_step E X mc ms nL (.aload_n k) pc lv st h cs sl NX K KR = (z_rf (z_lk lv k.val) (fun v => NX lv (v :: st) h cs sl)) := rfl
theorem zs_aload {k : Nat} : z_step E X mc ms nL (.aload k) pc lv st h cs sl NX K KR = (z_rf (z_lk lv k) (fun v => NX lv (v :: st) h cs sl)) := rfl
theorem zs_istore_n {k : Fin 4} : z_step E X mc ms nL (.istore_n k) pc lv st h cs sl NX K KR = (z_i1 st (fun x r => k.val < nL ∧ NX (z_sto lv k.val (.int x)) r h cs sl)) := rfl
theorem zs_istore {k : Nat} : z_step E X mc ms nL (.istore k) pc lv st h cs sl NX K KR = (z_i1 st (fun x r => k < nL ∧ NX (z_sto lv k (.int x)) r h cs sl)) := rfl
theorem zs_astore_n {k : Fin 4} : z_step E X mc ms nL (.astore_n k) pc lv st h cs sl NX K KR = (z_rfs st (fun v r => k.val < nL ∧ NX (z_sto lv k.val v) r h cs sl)) := rfl
theorem zs_astore {k : Nat} : z_step E X mc ms nL (.astore k) pc lv st h cs sl NX K KR = (z_rfs st (fun v r => k < nL ∧ NX (z_sto lv k v) r h cs sl)) := rfl
theorem zs_iinc {k : Nat} {d : Int} : z_step E X mc ms nL (.iinc k d) pc lv st h cs sl NX K KR = (z_int (z_lk lv k) (fun x => k < nL ∧ NX (z_sto lv k (.int (x + Int32.ofInt d))) st h cs sl)) := rfl
theorem zs_iadd  : z_step E X mc ms nL (.iadd) pc lv st h cs sl NX K KR = (z_i2 st (fun x y r => NX lv (.int (x + y) :: r) h cs sl)) := rfl
theorem zs_isub  : z_step E X mc ms nL (.isub) pc lv st h cs sl NX K KR = (z_i2 st (fun x y r => NX lv (.int (x - y) :: r) h cs sl)) := rfl
theorem zs_imul  : z_step E X mc ms nL (.imul) pc lv st h cs sl NX K KR = (z_i2 st (fun x y r => NX lv (.int (x * y) :: r) h cs sl)) := rfl
theorem zs_iand  : z_step E X mc ms nL (.iand) pc lv st h cs sl NX K KR = (z_i2 st (fun x y r => NX lv (.int (x &&& y) :: r) h cs sl)) := rfl
theorem zs_ior  : z_step E X mc ms nL (.ior) pc lv st h cs sl NX K KR = (z_i2 st (fun x y r => NX lv (.int (x ||| y) :: r) h cs sl)) := rfl
theorem zs_ishl  : z_step E X mc ms nL (.ishl) pc lv st h cs sl NX K KR = (z_i2 st (fun x y r => NX lv (.int (x <<< (y &&& 31)) :: r) h cs sl)) := rfl
theorem zs_ishr  : z_step E X mc ms nL (.ishr) pc lv st h cs sl NX K KR = (z_i2 st (fun x y r => NX lv (.int (x >>> (y &&& 31)) :: r) h cs sl)) := rfl
theorem zs_idiv  : z_step E X mc ms nL (.idiv) pc lv st h cs sl NX K KR = (z_i2 st (fun x y r => ¬ y = 0 ∧ NX lv (.int (x / y) :: r) h cs sl)) := rfl
theorem zs_irem  : z_step E X mc ms nL (.irem) pc lv st h cs sl NX K KR = (z_i2 st (fun x y r => ¬ y = 0 ∧ NX lv (.int (x - x / y * y) :: r) h cs sl)) := rfl
theorem zs_i2l  : z_step E X mc ms nL (.i2l) pc lv st h cs sl NX K KR = (z_i1 st (fun x r => NX lv (.long x.toInt64 :: r) h cs sl)) := rfl
theorem zs_l2i  : z_step E X mc ms nL (.l2i) pc lv st h cs sl NX K KR = (z_l1 st (fun x r => NX lv (.int x.toInt32 :: r) h cs sl)) := rfl
theorem zs_i2b  : z_step E X mc ms nL (.i2b) pc lv st h cs sl NX K KR = (z_i1 st (fun x r => NX lv (.int x.toInt8.toInt32 :: r) h cs sl)) := rfl
theorem zs_i2c  : z_step E X mc ms nL (.i2c) pc lv st h cs sl NX K KR = (z_i1 st (fun x r => NX lv (.int (x.toUInt32 % 65536).toInt32 :: r) h cs sl)) := rfl
theorem zs_lor  : z_step E X mc ms nL (.lor) pc lv st h cs sl NX K KR = (z_l2 st (fun x y r => NX lv (.long (x ||| y) :: r) h cs sl)) := rfl
theorem zs_land  : z_step E X mc ms nL (.land) pc lv st h cs sl NX K KR = (z_l2 st (fun x y r => NX lv (.long (x &&& y) :: r) h cs sl)) := rfl
theorem zs_lshl  : z_step E X mc ms nL (.lshl) pc lv st h cs sl NX K KR = (z_li st (fun x y r => NX lv (.long (x <<< (y.toInt64 &&& 63)) :: r) h cs sl)) := rfl
theorem zs_lshr  : z_step E X mc ms nL (.lshr) pc lv st h cs sl NX K KR = (z_li st (fun x y r => NX lv (.long (x >>> (y.toInt64 &&& 63)) :: r) h cs sl)) := rfl
theorem zs_lushr  : z_step E X mc ms nL (.lushr) pc lv st h cs sl NX K KR = (z_li st (fun x y r => NX lv (.long (x.toUInt64 >>> (y.toInt64.toUInt64 &&& Int64.toUInt64 63)).toInt64 :: r) h cs sl)) := rfl
theorem zs_dup  : z_step E X mc ms nL (.dup) pc lv st h cs sl NX K KR = (z_v1 st (fun v r => NX lv (v :: v :: r) h cs sl)) := rfl
theorem zs_dup2  : z_step E X mc ms nL (.dup2) pc lv st h cs sl NX K KR = (z_v2 st (fun v w r => NX lv (v :: w :: v :: w :: r) h cs sl)) := rfl
theorem zs_pop  : z_step E X mc ms nL (.pop) pc lv st h cs sl NX K KR = (z_v1 st (fun _ r => NX lv r h cs sl)) := rfl
theorem zs_aconst_null  : z_step E X mc ms nL (.aconst_null) pc lv st h cs sl NX K KR = (NX lv (.null :: st) h cs sl) := rfl
theorem zs_goto {off : Int} : z_step E X mc ms nL (.goto off) pc lv st h cs sl NX K KR = (K (z_tg pc off) lv st h cs sl) := rfl
theorem zs_if_icmp {c : ClassFile.Cond} {off : Int} : z_step E X mc ms nL (.if_icmp c off) pc lv st h cs sl NX K KR = (z_i2 st (fun x y r => (z_cmp c x y → K (z_tg pc off) lv r h cs sl) ∧ (¬ z_cmp c x y → NX lv r h cs sl))) := rfl
theorem zs_ifCond {c : ClassFile.Cond} {off : Int} : z_step E X mc ms nL (.ifCond c off) pc lv st h cs sl NX K KR = (z_i1 st (fun x r => (z_cmp c x 0 → K (z_tg pc off) lv r h cs sl) ∧ (¬ z_cmp c x 0 → NX lv r h cs sl))) := rfl
theorem zs_ifnull {off : Int} : z_step E X mc ms nL (.ifnull off) pc lv st h cs sl NX K KR = (z_nul st (fun r => K (z_tg pc off) lv r h cs sl) (fun r => NX lv r h cs sl)) := rfl
theorem zs_ifnonnull {off : Int} : z_step E X mc ms nL (.ifnonnull off) pc lv st h cs sl NX K KR = (z_nul st (fun r => NX lv r h cs sl) (fun r => K (z_tg pc off) lv r h cs sl)) := rfl
theorem zs_tableswitch {d : Int} {lo : Int} {hi : Int} {os : Array Int} : z_step E X mc ms nL (.tableswitch d lo hi os) pc lv st h cs sl NX K KR = (z_i1 st (fun x r => (∀ j : Fin os.size, x.toInt = lo + j.val → K (z_tg pc os[j]) lv r h cs sl) ∧ (x.toInt < lo ∨ hi < x.toInt → K (z_tg pc d) lv r h cs sl))) := rfl
theorem zs_getfield {x : Nat} : z_step E X mc ms nL (.getfield x) pc lv st h cs sl NX K KR = (x < 100000 ∧ z_r1 st (fun a r => z_oc (z_lk E.2.1 (200000 + x)) (fun v => z_lk E.2.1 300000 = some (.ref a) ∧ NX lv (v :: r) h cs sl) (z_sm (z_lk E.1 x) (fun q => z_obj (h a) q.1 (fun _ fs => z_sm (fs[q.2.1]?) (fun v => NX lv (v :: r) h cs sl)))))) := rfl
theorem zs_putfield {x : Nat} : z_step E X mc ms nL (.putfield x) pc lv st h cs sl NX K KR = (z_rv st (fun a v r => z_sm (z_lk E.1 x) (fun q => z_fit q.2.2 v ∧ z_obj (h a) q.1 (fun t fs => q.2.1 < fs.length ∧ NX lv r (va_up h a (some (t, .inr (q.1, fs.set q.2.1 v)))) cs sl)))) := rfl
theorem zs_arraylength  : z_step E X mc ms nL (.arraylength) pc lv st h cs sl NX K KR = (z_r1 st (fun a r => z_len (h a) (X a) (fun n => NX lv (.int (nI n) :: r) h cs sl))) := rfl
theorem zs_iaload  : z_step E X mc ms nL (.iaload) pc lv st h cs sl NX K KR = (z_ri st (fun a i r => z_rdx (h a) (X a) (fun kd n g => kd = 1 ∧ vp_in i n ∧ NX lv (.int (g i.toNatClampNeg) :: r) h cs sl))) := rfl
theorem zs_baload  : z_step E X mc ms nL (.baload) pc lv st h cs sl NX K KR = (z_ri st (fun a i r => z_rdx (h a) (X a) (fun kd n g => (kd = 0 ∨ kd = 2) ∧ vp_in i n ∧ NX lv (.int (g i.toNatClampNeg) :: r) h cs sl))) := rfl
theorem zs_aaload  : z_step E X mc ms nL (.aaload) pc lv st h cs sl NX K KR = (z_ri st (fun a i r => z_rrw (h a) (fun _ n g => vp_in i n ∧ NX lv (va_rf (g i.toNatClampNeg) :: r) h cs sl))) := rfl
theorem zs_iastore  : z_step E X mc ms nL (.iastore) pc lv st h cs sl NX K KR = (z_rii st (fun a i x r => z_row (h a) (fun t kd n g => kd = 1 ∧ vp_in i n ∧ NX lv r (va_up h a (some (t, .inl (1, n, .inl (upd g i.toNatClampNeg x))))) cs sl))) := rfl
theorem zs_bastore  : z_step E X mc ms nL (.bastore) pc lv st h cs sl NX K KR = (z_rii st (fun a i x r => z_row (h a) (fun t kd n g => (kd = 0 ∨ kd = 2) ∧ vp_in i n ∧ NX lv r (va_up h a (some (t, .inl (kd, n, .inl (upd g i.toNatClampNeg (vp_nar (z_ty kd) x)))))) cs sl))) := rfl
theorem zs_aastore  : z_step E X mc ms nL (.aastore) pc lv st h cs sl NX K KR = (z_rir st (fun a i v r => z_rrw (h a) (fun t n g => z_obj (h v) 0 (fun _ _ => vp_in i n ∧ NX lv r (va_up h a (some (t, .inl (3, n, .inr (.inr (.inr (.inr (va_up g i.toNatClampNeg (some v)))))))) ) cs sl)))) := rfl
theorem zs_newarray {ty : ArrayType} : z_step E X mc ms nL (.newarray ty) pc lv st h cs sl NX K KR = (z_i1 st (fun x r => z_ak ty < 3 ∧ z_lk E.2.2.2.1 (100000 + z_ak ty) = some 2 ∧ ¬ x < 0 ∧ x.toNatClampNeg ≤ 1000000 ∧ cs + 1 ≤ mc ∧ sl + x.toNatClampNeg ≤ ms ∧ ∃ t : Nat, ∀ q : Nat, h q = none → NX lv (.ref q :: r) (va_up h q (some (t, .inl (z_ak ty, x.toNatClampNeg, .inl (fun _ => 0))))) (cs + 1) (sl + x.toNatClampNeg))) := rfl
theorem zs_anewarray {y : Nat} : z_step E X mc ms nL (.anewarray y) pc lv st h cs sl NX K KR = (z_i1 st (fun x r => z_lk E.2.2.1 y = some 100 ∧ ¬ x < 0 ∧ x.toNatClampNeg ≤ 1000000 ∧ cs + 1 ≤ mc ∧ sl + x.toNatClampNeg ≤ ms ∧ ∃ t : Nat, ∀ q : Nat, h q = none → NX lv (.ref q :: r) (va_up h q (some (t, .inl (3, x.toNatClampNeg, .inr (.inr (.inr (.inr (fun _ => none)))))))) (cs + 1) (sl + x.toNatClampNeg))) := rfl
theorem zs_new {y : Nat} : z_step E X mc ms nL (.new y) pc lv st h cs sl NX K KR = (z_sm (z_lk E.2.2.1 y) (fun ci => ci < 8 ∧ cs + 1 ≤ mc ∧ sl + z_N ci ≤ ms ∧ ∃ t : Nat, ∀ q : Nat, h q = none → NX lv (.ref q :: st) (va_up h q (some (t, .inr (ci, z_df ci)))) (cs + 1) (sl + z_N ci))) := rfl
theorem zs_invokespecial {y : Nat} : z_step E X mc ms nL (.invokespecial y) pc lv st h cs sl NX K KR = (z_r1 st (fun _ r => z_lk E.2.2.2.1 y = some 0 ∧ r = [] ∧ NX lv r h cs sl)) := rfl
theorem zs_invokestatic {y : Nat} : z_step E X mc ms nL (.invokestatic y) pc lv st h cs sl NX K KR = (z_bs (z_lk E.2.2.2.1 y) (z_i2 st (fun x y' r => r.length ≤ 4 ∧ cs ≤ mc ∧ sl ≤ ms ∧ NX lv (.int (if y' < x then y' else x) :: r) h cs sl)) (z_i2 st (fun x y' r => r.length ≤ 4 ∧ cs ≤ mc ∧ sl ≤ ms ∧ NX lv (.int (if x < y' then y' else x) :: r) h cs sl)) (z_acp st (fun a sp d dp k r => r = [] ∧ z_row (h a) (fun _ kd n0 f => kd = 1 ∧ z_row (h d) (fun t kd' n1 g => kd' = 1 ∧ ¬ sp < 0 ∧ ¬ dp < 0 ∧ ¬ k < 0 ∧ sp.toNatClampNeg + k.toNatClampNeg ≤ n0 ∧ dp.toNatClampNeg + k.toNatClampNeg ≤ n1 ∧ NX lv r (va_up h d (some (t, .inl (1, n1, .inl (va_cpy f g sp.toNatClampNeg dp.toNatClampNeg k.toNatClampNeg))))) cs sl))))) := rfl
theorem zs_invokevirtual {y : Nat} : z_step E X mc ms nL (.invokevirtual y) pc lv st h cs sl NX K KR = (z_r1 st (fun a r => z_lk E.2.2.2.1 y = some 8 ∧ r = [] ∧ z_row (h a) (fun _ kd n g => kd = 1 ∧ cs + 1 ≤ mc ∧ sl + n ≤ ms ∧ ∃ t : Nat, ∀ q : Nat, h q = none → NX lv (.ref q :: r) (va_up h q (some (t, .inl (1, n, .inl g)))) (cs + 1) (sl + n)))) := rfl
theorem zs_checkcast {y : Nat} : z_step E X mc ms nL (.checkcast y) pc lv st h cs sl NX K KR = (z_r1 st (fun a r => z_lk E.2.2.2.1 (300000 + y) = some 9 ∧ z_row (h a) (fun _ kd _ _ => kd = 1 ∧ NX lv (.ref a :: r) h cs sl))) := rfl
theorem zs_iushr  : z_step E X mc ms nL (.iushr) pc lv st h cs sl NX K KR = (z_i2 st (fun x y r => NX lv (.int (x.toUInt32 >>> (y.toUInt32 &&& Int32.toUInt32 31)).toInt32 :: r) h cs sl)) := rfl
theorem zs_return_  : z_step E X mc ms nL (.return_) pc lv st h cs sl NX K KR = (E.2.2.2.2 = 0 ∧ st = [] ∧ cs ≤ mc ∧ sl ≤ ms ∧ KR none h cs sl) := rfl
theorem zs_ireturn  : z_step E X mc ms nL (.ireturn) pc lv st h cs sl NX K KR = (z_i1 st (fun x r => r = [] ∧ (E.2.2.2.2 = 1 ∨ (E.2.2.2.2 = 2 ∧ (x = 0 ∨ x = 1)) ∨ (E.2.2.2.2 = 4 ∧ narrow .char (.int x) = .int x) ∨ (E.2.2.2.2 = 5 ∧ narrow .byte (.int x) = .int x)) ∧ cs ≤ mc ∧ sl ≤ ms ∧ KR (some (.int x)) h cs sl)) := rfl
theorem zs_areturn  : z_step E X mc ms nL (.areturn) pc lv st h cs sl NX K KR = (z_rfs st (fun v r => r = [] ∧ E.2.2.2.2 = 3 ∧ cs ≤ mc ∧ sl ≤ ms ∧ KR (some v) h cs sl)) := rfl
end ZL
theorem zw_0 {E : zE} {X : Nat → Option (Nat × Nat × (Nat → Int32))} {mc ms nL : Nat} {K : zK} {KR : Option Value → zH → Nat → Nat → Prop} {pc : Nat} {lv : zL} {st : List Value} {h : zH} {cs sl : Nat} : z_wp E X mc ms nL K KR [] pc lv st h cs sl = K pc lv st h cs sl := rfl
theorem zw_1 {E : zE} {X : Nat → Option (Nat × Nat × (Nat → Int32))} {mc ms nL : Nat} {K : zK} {KR : Option Value → zH → Nat → Nat → Prop} {i : Instr} {n : Nat} {is : List (Instr × Nat)} {pc : Nat} {lv : zL} {st : List Value} {h : zH} {cs sl : Nat} : z_wp E X mc ms nL K KR ((i, n) :: is) pc lv st h cs sl = z_step E X mc ms nL i pc lv st h cs sl (fun lv st h cs sl => z_wp E X mc ms nL K KR is (pc + n) lv st h cs sl) K KR := rfl
theorem zh_lk0 {α : Type} {i : Nat} : z_lk ([] : List (Nat × α)) i = none := rfl
theorem zh_lk1 {α : Type} {i j : Nat} {v : α} {r : List (Nat × α)} : z_lk ((j, v) :: r) i = if j = i then some v else z_lk r i := rfl
theorem zh_i1 {x : Int32} {r : List Value} {k : Int32 → List Value → Prop} : z_i1 (.int x :: r) k = k x r := rfl
theorem zh_i2 {x y : Int32} {r : List Value} {k : Int32 → Int32 → List Value → Prop} : z_i2 (.int y :: .int x :: r) k = k x y r := rfl
theorem zh_l2 {x y : Int64} {r : List Value} {k : Int64 → Int64 → List Value → Prop} : z_l2 (.long y :: .long x :: r) k = k x y r := rfl
theorem zh_li {x : Int64} {y : Int32} {r : List Value} {k : Int64 → Int32 → List Value → Prop} : z_li (.int y :: .long x :: r) k = k x y r := rfl
theorem zh_l1 {x : Int64} {r : List Value} {k : Int64 → List Value → Prop} : z_l1 (.long x :: r) k = k x r := rfl
theorem zh_r1 {a : Nat} {r : List Value} {k : Nat → List Value → Prop} : z_r1 (.ref a :: r) k = k a r := rfl
theorem zh_ri {a : Nat} {i : Int32} {r : List Value} {k : Nat → Int32 → List Value → Prop} : z_ri (.int i :: .ref a :: r) k = k a i r := rfl
theorem zh_rii {a : Nat} {i x : Int32} {r : List Value} {k : Nat → Int32 → Int32 → List Value → Prop} : z_rii (.int x :: .int i :: .ref a :: r) k = k a i x r := rfl
theorem zh_rir {a v : Nat} {i : Int32} {r : List Value} {k : Nat → Int32 → Nat → List Value → Prop} : z_rir (.ref v :: .int i :: .ref a :: r) k = k a i v r := rfl
theorem zh_rv {a : Nat} {v : Value} {r : List Value} {k : Nat → Value → List Value → Prop} : z_rv (v :: .ref a :: r) k = k a v r := rfl
theorem zh_v1 {v : Value} {r : List Value} {k : Value → List Value → Prop} : z_v1 (v :: r) k = (z_isl v = false ∧ k v r) := rfl
theorem zh_v2 {v w : Value} {r : List Value} {k : Value → Value → List Value → Prop} : z_v2 (v :: w :: r) k = (z_isl v = false ∧ z_isl w = false ∧ k v w r) := rfl
theorem zh_int {x : Int32} {k : Int32 → Prop} : z_int (some (.int x)) k = k x := rfl
theorem zh_lng {x : Int64} {k : Int64 → Prop} : z_lng (some (.long x)) k = k x := rfl
theorem zh_rf {a : Nat} {k : Value → Prop} : z_rf (some (.ref a)) k = k (.ref a) := rfl
theorem zh_rfn {k : Value → Prop} : z_rf (some .null) k = k .null := rfl
theorem zh_rfs {a : Nat} {r : List Value} {k : Value → List Value → Prop} : z_rfs (.ref a :: r) k = k (.ref a) r := rfl
theorem zh_rfsn {r : List Value} {k : Value → List Value → Prop} : z_rfs (.null :: r) k = k .null r := rfl
theorem zh_nul {a : Nat} {r : List Value} {kn kr : List Value → Prop} : z_nul (.ref a :: r) kn kr = kr r := rfl
theorem zh_nuln {r : List Value} {kn kr : List Value → Prop} : z_nul (.null :: r) kn kr = kn r := rfl
theorem zh_acp {n dp sp : Int32} {d a : Nat} {r : List Value} {k : Nat → Int32 → Nat → Int32 → Int32 → List Value → Prop} : z_acp (.int n :: .int dp :: .ref d :: .int sp :: .ref a :: r) k = k a sp d dp n r := rfl
theorem zh_sm {α : Type} {x : α} {k : α → Prop} : z_sm (some x) k = k x := rfl
theorem zh_obj {t c ci : Nat} {fs : List Value} {k : Nat → List Value → Prop} : z_obj (some (t, .inr (c, fs))) ci k = (c = ci ∧ k t fs) := rfl
theorem zh_row {t kd n : Nat} {g : Nat → Int32} {k : Nat → Nat → Nat → (Nat → Int32) → Prop} : z_row (some (t, .inl (kd, n, .inl g))) k = k t kd n g := rfl
theorem zh_rdx {t kd n : Nat} {g : Nat → Int32} {x : Option (Nat × Nat × (Nat → Int32))} {k : Nat → Nat → (Nat → Int32) → Prop} : z_rdx (some (t, .inl (kd, n, .inl g))) x k = k kd n g := rfl
theorem zh_rdxn {kd n : Nat} {g : Nat → Int32} {k : Nat → Nat → (Nat → Int32) → Prop} : z_rdx none (some (kd, n, g)) k = k kd n g := rfl
theorem zh_rrw {t n : Nat} {g : Nat → Option Nat} {k : Nat → Nat → (Nat → Option Nat) → Prop} : z_rrw (some (t, .inl (3, n, .inr (.inr (.inr (.inr g)))))) k = k t n g := rfl
theorem zh_len {t kd : Nat} {x : vp_A} {y : Option (Nat × Nat × (Nat → Int32))} {k : Nat → Prop} : z_len (some (t, .inl (kd, x))) y k = k x.1 := rfl
theorem zh_lenn {kd n : Nat} {g : Nat → Int32} {k : Nat → Prop} : z_len none (some (kd, n, g)) k = k n := rfl
theorem zh_ocs {α : Type} {x : α} {ks : α → Prop} {kn : Prop} : z_oc (some x) ks kn = ks x := rfl
theorem zh_ocn {α : Type} {ks : α → Prop} {kn : Prop} : z_oc none ks kn = kn := rfl
theorem zh_b1 {k1 k10 k7 : Prop} : z_bs (some 1) k1 k10 k7 = k1 := rfl
theorem zh_b10 {k1 k10 k7 : Prop} : z_bs (some 10) k1 k10 k7 = k10 := rfl
theorem zh_b7 {k1 k10 k7 : Prop} : z_bs (some 7) k1 k10 k7 = k7 := rfl
theorem zh_eq {x y : Int32} : z_cmp .eq x y = (x = y) := rfl
theorem zh_ne {x y : Int32} : z_cmp .ne x y = (¬ x = y) := rfl
theorem zh_lt {x y : Int32} : z_cmp .lt x y = (x < y) := rfl
theorem zh_ge {x y : Int32} : z_cmp .ge x y = (y ≤ x) := rfl
theorem zh_gt {x y : Int32} : z_cmp .gt x y = (y < x) := rfl
theorem zh_le {x y : Int32} : z_cmp .le x y = (x ≤ y) := rfl
theorem zh_f0 {x : Int32} : z_fit 0 (.int x) = True := rfl
theorem zh_f1 {x : Int32} : z_fit 1 (.int x) = (x = 0 ∨ x = 1) := rfl
theorem zh_f2 {a : Nat} : z_fit 2 (.ref a) = True := rfl
theorem zh_f2n : z_fit 2 .null = True := rfl
theorem zh_s {lv : zL} {i : Nat} {v : Value} : z_sto lv i v = (i, v) :: z_rmv lv i := rfl
theorem zh_m0 {i : Nat} : z_rmv [] i = [] := rfl
theorem zh_m1 {i j : Nat} {w : Value} {r : zL} : z_rmv ((j, w) :: r) i = if j = i then z_rmv r i else if j + 1 = i then (if z_isl w = true then z_rmv r i else (j, w) :: z_rmv r i) else (j, w) :: z_rmv r i := rfl
theorem zh_li0 {x : Int32} : z_isl (.int x) = false := rfl
theorem zh_li1 {x : Nat} : z_isl (.ref x) = false := rfl
theorem zh_li2 : z_isl .null = false := rfl
theorem zh_li3 {x : Int64} : z_isl (.long x) = true := rfl
theorem zh_ab : z_ak .byte = 0 := rfl
theorem zh_ai : z_ak .int = 1 := rfl
theorem zh_az : z_ak .boolean = 2 := rfl
theorem zh_tg {pc : Nat} {off : Int} : z_tg pc off = ((pc : Int) + off).toNat := rfl
theorem zh_g0 {i : Nat} : lv_args i [] = [] := rfl
theorem zh_gi {i : Nat} {x : Int32} {r : List Value} : lv_args i (.int x :: r) = (i, .int x) :: lv_args (i + 1) r := rfl
theorem zh_gr {i : Nat} {x : Nat} {r : List Value} : lv_args i (.ref x :: r) = (i, .ref x) :: lv_args (i + 1) r := rfl
theorem zh_gl {i : Nat} {x : Int64} {r : List Value} : lv_args i (.long x :: r) = (i, .long x) :: lv_args (i + 2) r := rfl
theorem zh_gn {i : Nat} {r : List Value} : lv_args i (.null :: r) = (i, .null) :: lv_args (i + 1) r := rfl
theorem z_f0 : ((0 : Fin 4) : Nat) = 0 := rfl
theorem z_f1 : ((1 : Fin 4) : Nat) = 1 := rfl
theorem z_f2 : ((2 : Fin 4) : Nat) = 2 := rfl
theorem z_f3 : ((3 : Fin 4) : Nat) = 3 := rfl
