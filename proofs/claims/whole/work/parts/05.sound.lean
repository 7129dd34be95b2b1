def z_J (p : Program) (l : Launch) (e : Env) (R : Room) (s : State) (m : MethodId) (args : Array Value) (below : List Frame) (meth : Method) (c : Code) (Q : State → Prop) (D : va_G) (A : Nat → Prop) (nL : Nat) : zK := fun pc lv st h cs sl => ∀ (H : Heap) (locs : List Loc) (ls : Array Slot), z_Hp D A s h H → va_S A s.heap H locs → lv_has ls nL lv → W p l e R s m args below meth c H locs cs sl Q (F0 m pc ls st)
/-- what the tables must hold for E -/
def z_EOK (ws : List Jvm.Cond) (own : String) (fr lc : Nat) (ini : Bool) (E : zE) : Prop :=
  (∀ q ∈ E.1, q.2.1 < 8 ∧ q.2.2.1 < z_N q.2.1 ∧ (((z_T q.2.1 q.2.2.1).2.2.2 = false ∧ q.2.2.2 = z_kd (z_F q.2.1 q.2.2.1)) ∨ ((z_T q.2.1 q.2.2.1).2.2.2 = true ∧ (q.2.2.2 = 7 ∨ (ini = true ∧ (z_T q.2.1 q.2.2.1).1 = own ∧ q.2.2.2 = z_kd (z_F q.2.1 q.2.2.1))))) ∧ (∀ w ∈ u_ws (z_R q.2.1) (z_T q.2.1) (z_N q.2.1), w ∈ ws) ∧ Jvm.Cond.fieldLink own q.1 (z_T q.2.1 q.2.2.1).1 (z_T q.2.1 q.2.2.1).2.1 (z_T q.2.1 q.2.2.1).2.2.1 ∈ ws)
  ∧ (∀ q ∈ E.2.2.1, (q.2 < 8 ∧ (∀ w ∈ u_ws (z_R q.2) (z_T q.2) (z_N q.2), w ∈ ws) ∧ Jvm.Cond.classLink own q.1 (z_R q.2) ∈ ws ∧ Jvm.Cond.instantiable (z_R q.2) (z_N q.2) ∈ ws ∧ Jvm.Cond.initialized (z_R q.2) ∈ ws) ∨ (q.2 = 100 ∧ Jvm.Cond.classLink own q.1 RX0 ∈ ws ∧ True))
  ∧ (∀ q ∈ E.2.2.2.1, (q.2 = 0 ∧ 1 ≤ fr ∧ 12 ≤ lc ∧ Jvm.Cond.methodLink own q.1 Lib.objectInit ∈ ws ∧ Jvm.Cond.instanceMethod Lib.objectInit ∈ ws ∧ Jvm.Cond.code Lib.objectInit ⟨#[0xb1]⟩ 1 none ∈ ws) ∨ (q.2 = 1 ∧ 1 ≤ fr ∧ 21 ≤ lc ∧ Jvm.Cond.methodLink own q.1 Lib.Math.min.name ∈ ws ∧ Jvm.Cond.static Lib.Math.min.name ∈ ws ∧ Jvm.Cond.initialized "java/lang/Math" ∈ ws ∧ Jvm.Cond.code Lib.Math.min.name Lib.Math.min.code 2 (some .int) ∈ ws) ∨ (q.2 = 2 ∧ ((q.1 = 100000 ∧ Jvm.Cond.arrayClass .byte ∈ ws) ∨ (q.1 = 100001 ∧ Jvm.Cond.arrayClass .int ∈ ws) ∨ (q.1 = 100002 ∧ Jvm.Cond.arrayClass .boolean ∈ ws))) ∨ (q.2 = 4 ∧ ∃ i ∈ List.range 2000, q.1 = 200000 + i ∧ Jvm.Cond.fieldLink own i "jdk/internal/util/Preconditions" "SIOOBE_FORMATTER" "Ljava/util/function/BiFunction;" ∈ ws) ∨ (q.2 = 7 ∧ 1 ≤ fr ∧ 60 ≤ lc ∧ Jvm.Cond.methodLink own q.1 arraycopyName ∈ ws ∧ Jvm.Cond.native arraycopyName ∈ ws ∧ Jvm.Cond.static arraycopyName ∈ ws ∧ Jvm.Cond.initialized "java/lang/System" ∈ ws) ∨ (q.2 = 8 ∧ 1 ≤ fr ∧ 14 ≤ lc ∧ Jvm.Cond.methodLink own q.1 ⟨"[I", "clone", "()Ljava/lang/Object;"⟩ ∈ ws ∧ Jvm.Cond.sameMethod "[I" "java/lang/Object" "clone" "()Ljava/lang/Object;" ∈ ws ∧ Jvm.Cond.native ⟨"java/lang/Object", "clone", "()Ljava/lang/Object;"⟩ ∈ ws ∧ Jvm.Cond.instanceMethod ⟨"java/lang/Object", "clone", "()Ljava/lang/Object;"⟩ ∈ ws ∧ Jvm.Cond.selects "[I" ⟨"[I", "clone", "()Ljava/lang/Object;"⟩ ⟨"java/lang/Object", "clone", "()Ljava/lang/Object;"⟩ ∈ ws) ∨ (q.2 = 9 ∧ ∃ i ∈ List.range 2000, q.1 = 300000 + i ∧ Jvm.Cond.classLink own i "[I" ∈ ws) ∨ (q.2 = 10 ∧ 1 ≤ fr ∧ 21 ≤ lc ∧ Jvm.Cond.methodLink own q.1 Lib.Math.max.name ∈ ws ∧ Jvm.Cond.static Lib.Math.max.name ∈ ws ∧ Jvm.Cond.initialized "java/lang/Math" ∈ ws ∧ Jvm.Cond.code Lib.Math.max.name Lib.Math.max.code 2 (some .int) ∈ ws))
theorem z_tgI {pc : Nat} {off : Int} (h : 0 ≤ (pc : Int) + off) : (pc : Int) + off = ((z_tg pc off : Nat) : Int) := by
  rw [z_tg, Int.toNat_of_nonneg h]
theorem z_lst {ls : Array Slot} {nL i : Nat} {lv : zL} {v : Value} (hl : lv_has ls nL lv) (h : z_lk lv i = some v) : ls[i]? = some (.val v) := hl.2.2 (i, v) (z_lkm lv i v h)
theorem z_lki {ls : Array Slot} {lv : zL} {i : Nat} {v : Value} (h : z_lk lv i = some v) : ∃ k : Nat, lv[k]? = some (i, v) := List.getElem?_of_mem (z_lkm lv i v h)
def z_tx : String := "0123456789aceilnorstdhmpu-./:=,"
def z_by : List Int32 := [48, 49, 50, 51, 52, 53, 54, 55, 56, 57, 97, 99, 101, 105, 108, 110, 111, 114, 115, 116, 100, 104, 109, 112, 117, 45, 46, 47, 58, 61, 44]
/-- what the start gives of constants, and what stays -/
def z_cn (sa sv : Nat) (A : Nat → Prop) (U : State) : Prop :=
  va_AO RX0 U ∧ (vk_R RX2 90 z_tx sa U ∧ vk_R RX5 126 z_tx sa U ∧ vk_R RX7 104 z_tx sa U) ∧ vk_S 1 [31] [z_by] (fun _ => sa) (fun _ => sv) A U U.heap ∧ va_Z "java/lang/String" "COMPACT_STRINGS" "Z" (.int 1) A U U.heap ∧ va_Zq "jdk/internal/util/Preconditions" "SIOOBE_FORMATTER" "Ljava/util/function/BiFunction;" A U U.heap ∧ va_Nw (.castable "[I" "java/lang/Cloneable") U ∧ va_Nw (.methodLinkNest RX0 22 yX6_isSameText RX6) U ∧ va_Nw (.methodLinkNest RX4 58 yX6_isSameText RX6) U
def z_lcOK (own : String) (ws : List Jvm.Cond) (A : Nat → Prop) (s : State) (lc : List (Nat × Value)) : Prop := ∀ q ∈ lc, (∃ x : Int32, q.2 = .int x ∧ Jvm.Cond.constant own q.1 x ∈ ws ∧ q.1 < 100000) ∨ (∃ a : Nat, q.2 = .ref a ∧ vk_R own q.1 z_tx a s ∧ q.1 < 100000) ∨ (∃ (i : Nat) (C n d : String), q.1 = 100000 + i ∧ i < 100000 ∧ va_Z C n d q.2 A s s.heap ∧ Jvm.Cond.fieldLink own i C n d ∈ ws) ∨ (∃ (i a : Nat) (n d : String), q.1 = 200000 + i ∧ i < 100000 ∧ z_lk lc 300000 = some (.ref a) ∧ va_OF "java/lang/String" n d q.2 a A s s.heap ∧ Jvm.Cond.fieldLink own i "java/lang/String" n d ∈ ws) ∨ q.1 = 300000
def z_Qc (D : va_G) (A : Nat → Prop) (Post : Option Value → zH → Prop) : Array Value → State → Outcome → State → Prop := fun _ st oc t => (∃ (r : Option Value) (h : zH), oc = .returned r ∧ Post r h ∧ z_Hp D A t h t.heap) ∧ va_F A st t
def z_rt (k : Nat) (r : Option FieldType) : Prop := match k, r with
  | 0, none => True
  | 1, some .int => True
  | 2, some .boolean => True
  | 3, some (.object _) => True
  | 3, some (.array _) => True
  | 4, some .char => True
  | 5, some .byte => True
  | _, _ => False
section ZS
variable {p : Program} {l : Launch} {e : Env} {R : Room} {s : State} {m : MethodId} {args : Array Value} {below : List Frame} {meth : Method} {c : Code} {D : va_G} {A : Nat → Prop} {cc : ByteArray} {nL fr lc mc ms : Nat} {own : String} {ws : List Jvm.Cond} {ini : Bool} {E : zE} {X : Nat → Option (Nat × Nat × (Nat → Int32))} {Post : Option Value → zH → Prop}
def z_Env (p : Program) (R : Room) (s : State) (m : MethodId) (args : Array Value) (meth : Method) (c : Code) (D : va_G) (A : Nat → Prop) (cc : ByteArray) (nL fr lc mc ms : Nat) (own : String) (ws : List Jvm.Cond) (ini : Bool) (E : zE) (X : Nat → Option (Nat × Nat × (Nat → Int32))) : Prop :=
  p.tables.exec = Jvm.exec ∧ c.code = cc ∧ c.maxLocals = nL ∧ s.vm.findClass own = some m.cls ∧ (∀ w ∈ ws, w.before args s = true) ∧ va_K D vwCl [] s ∧ (∀ q : Nat, s.heap.size ≤ q → A q) ∧ z_EOK ws own fr lc ini E ∧ z_lcOK own ws A s E.2.1 ∧ va_AO RX0 s ∧ (va_Zq "jdk/internal/util/Preconditions" "SIOOBE_FORMATTER" "Ljava/util/function/BiFunction;" A s s.heap ∧ va_Nw (.castable "[I" "java/lang/Cloneable") s) ∧ (R.cells = mc ∧ R.slots = ms ∧ fr ≤ R.frames ∧ lc ≤ R.locals) ∧ z_rt E.2.2.2.2 meth.sig.returnType ∧ meth.locks = false ∧ (ini = true → meth.name = "<init>") ∧ (∀ (a : Nat) (q : Nat × Nat × (Nat → Int32)), X a = some q → (q.1 = 1 ∧ va_X a q.2.1 q.2.2 s s.heap ∧ a < s.heap.size ∧ ¬ A a) ∨ (q.1 = 0 ∧ va_T .byte a q.2.1 (fun j => .int (q.2.2 j)) A s s.heap))
set_option maxHeartbeats 4000000 in
theorem z_step_ok (hE : z_Env p R s m args meth c D A cc nL fr lc mc ms own ws ini E X) {i : Instr} {n pc : Nat} {lv : zL} {st : List Value} {h : zH} {cs sl : Nat} {NX : zL → List Value → zH → Nat → Nat → Prop} {K : zK} {KR : Option Value → zH → Nat → Nat → Prop}
    (hd : decode cc pc = .ok (i, n)) (hok : z_ok pc i n = true) (hs : z_step E X mc ms nL i pc lv st h cs sl NX K KR)
    (hN : ∀ lv st h cs sl, NX lv st h cs sl → z_J p l e R s m args below meth c (MQ below (z_Qc D A Post) args s mc ms A) D A nL (pc + n) lv st h cs sl)
    (hKK : ∀ pc lv st h cs sl, K pc lv st h cs sl → z_J p l e R s m args below meth c (MQ below (z_Qc D A Post) args s mc ms A) D A nL pc lv st h cs sl)
    (hKR : ∀ r h cs sl, KR r h cs sl → Post r h) : z_J p l e R s m args below meth c (MQ below (z_Qc D A Post) args s mc ms A) D A nL pc lv st h cs sl := by
  obtain ⟨hx, hb, hml, hown, hts, hK, hA, ⟨hEf, hEn, hEb⟩, hlcs, hao, ⟨hzq, hcast⟩, ⟨hRc, hRs, hRf, hRl⟩, hrt, hlocks, hini, hX⟩ := hE
  intro H locs ls hp hS hl
  cases i
  case iconst k =>
    have hn : n = 1 := by simpa [z_ok] using hok
    subst hn
    exact lv_iconst hx hb hd rfl (hN _ _ _ _ _ hs H locs ls hp hS hl)
  case bipush k =>
    have hn : n = 2 := by simpa [z_ok] using hok
    subst hn
    exact lv_bipush hx hb hd rfl (hN _ _ _ _ _ hs H locs ls hp hS hl)
  case sipush k =>
    have hn : n = 3 := by simpa [z_ok] using hok
    subst hn
    exact lv_sipush hx hb hd rfl (hN _ _ _ _ _ hs H locs ls hp hS hl)
  case ldc k =>
    have hn : n = 2 := by simpa [z_ok] using hok
    subst hn
    obtain ⟨hk0, hs⟩ := hs
    cases hq : z_lk E.2.1 k with
    | none => simp only [hq, z_sm] at hs
    | some v =>
      simp only [hq, z_sm] at hs
      rcases hlcs _ (z_lkm _ _ _ hq) with ⟨x, e1, e2, -⟩ | ⟨a, e1, e2, -⟩ | ⟨i, C, nn, d, e1, -⟩ | ⟨i, a, nn, d, e1, -⟩ | e1
      · simp only at e1 e2
        subst e1
        exact lv_ldc hx hb hown (hts _ e2) hd (hN _ _ _ _ _ hs H locs ls hp hS hl)
      · simp only at e1 e2
        subst e1
        exact va_ldcS hx hb hown e2 hd (hN _ _ _ _ _ hs H locs ls hp hS hl)
      · simp only at e1; omega
      · simp only at e1; omega
      · simp only at e1; omega
  case getstatic k =>
    have hn : n = 3 := by simpa [z_ok] using hok
    subst hn
    obtain ⟨hk0, hs⟩ := hs
    cases hq : z_lk E.2.1 (100000 + k) with
    | none =>
      simp only [hq, z_oc] at hs
      obtain ⟨h1, h2⟩ := hs
      rcases hEb _ (z_lkm _ _ _ h1) with ⟨z, -⟩ | ⟨z, -⟩ | ⟨z, -⟩ | ⟨-, i, -, z, hw⟩ | ⟨z, -⟩ | ⟨z, -⟩ | ⟨z, -⟩ | ⟨z, -⟩
      · simp only at z; omega
      · simp only at z; omega
      · simp only at z; omega
      · simp only at z
        have z : k = i := by omega
        subst z
        rcases hzq with hz | ⟨t, hz⟩
        · exact va_gets hx hb hz hS hown (hts _ hw) (fun _ z => z) hd (hN _ _ _ _ _ (h2 _ (Or.inl rfl)) H locs ls hp hS hl)
        · exact va_gets hx hb hz hS hown (hts _ hw) (fun _ z => z) hd (hN _ _ _ _ _ (h2 _ (Or.inr ⟨_, rfl⟩)) H locs ls hp hS hl)
      · simp only at z; omega
      · simp only at z; omega
      · simp only at z; omega
      · simp only at z; omega
    | some v =>
      simp only [hq, z_oc] at hs
      rcases hlcs _ (z_lkm _ _ _ hq) with ⟨x, -, -, z⟩ | ⟨a, -, -, z⟩ | ⟨i, C, nn, d, e1, -, e2, e3⟩ | ⟨i, a, nn, d, e1, e2, -⟩ | e1
      · simp only at z; omega
      · simp only at z; omega
      · simp only at e1 e2 e3
        have z : k = i := by omega
        subst z
        exact va_gets hx hb e2 hS hown (hts _ e3) (fun _ z => z) hd (hN _ _ _ _ _ hs H locs ls hp hS hl)
      · simp only at e1; omega
      · simp only at e1; omega
  case iload_n k =>
    have hn : n = 1 := by simpa [z_ok] using hok
    subst hn
    simp only [z_step, z_int] at hs
    split at hs
    · rename_i x hq
      exact lv_iload_n hx hb hd rfl (z_lst hl hq) (hN _ _ _ _ _ hs H locs ls hp hS hl)
    · exact hs.elim
  case iload k =>
    have hn : n = 2 := by simpa [z_ok] using hok
    subst hn
    simp only [z_step, z_int] at hs
    split at hs
    · rename_i x hq
      exact lv_iload hx hb hd (z_lst hl hq) (hN _ _ _ _ _ hs H locs ls hp hS hl)
    · exact hs.elim
  case lload_n k =>
    have hn : n = 1 := by simpa [z_ok] using hok
    subst hn
    simp only [z_step, z_lng] at hs
    split at hs
    · rename_i x hq
      exact lv_lload_n hx hb hd rfl (z_lst hl hq) (hN _ _ _ _ _ hs H locs ls hp hS hl)
    · exact hs.elim
  case aload_n k =>
    have hn : n = 1 := by simpa [z_ok] using hok
    subst hn
    simp only [z_step, z_rf] at hs
    split at hs
    · rename_i x hq
      exact lv_aload_n hx hb hd rfl (z_lst hl hq) (hN _ _ _ _ _ hs H locs ls hp hS hl)
    · rename_i hq
      exact lv_aload_nN hx hb hd rfl (z_lst hl hq) (hN _ _ _ _ _ hs H locs ls hp hS hl)
    · exact hs.elim
  case aload k =>
    have hn : n = 2 := by simpa [z_ok] using hok
    subst hn
    simp only [z_step, z_rf] at hs
    split at hs
    · rename_i x hq
      exact lv_aload hx hb hd (z_lst hl hq) (hN _ _ _ _ _ hs H locs ls hp hS hl)
    · rename_i hq
      exact lv_aloadN hx hb hd (z_lst hl hq) (hN _ _ _ _ _ hs H locs ls hp hS hl)
    · exact hs.elim
  case istore_n k =>
    have hn : n = 1 := by simpa [z_ok] using hok
    subst hn
    simp only [z_step, z_i1] at hs
    split at hs
    · exact lv_istore_n hx hb hd rfl hl hs.1 rfl (fun ls' hl' => hN _ _ _ _ _ hs.2 H locs ls' hp hS (z_has hl'))
    · exact hs.elim
  case istore k =>
    have hn : n = 2 := by simpa [z_ok] using hok
    subst hn
    simp only [z_step, z_i1] at hs
    split at hs
    · exact lv_istore hx hb hd hl hs.1 rfl (fun ls' hl' => hN _ _ _ _ _ hs.2 H locs ls' hp hS (z_has hl'))
    · exact hs.elim
  case astore_n k =>
    have hn : n = 1 := by simpa [z_ok] using hok
    subst hn
    simp only [z_step, z_rfs] at hs
    split at hs
    · exact lv_astore_n hx hb hd rfl hl hs.1 rfl (fun ls' hl' => hN _ _ _ _ _ hs.2 H locs ls' hp hS (z_has hl'))
    · exact lv_astore_nN hx hb hd rfl hl hs.1 rfl (fun ls' hl' => hN _ _ _ _ _ hs.2 H locs ls' hp hS (z_has hl'))
    · exact hs.elim
  case astore k =>
    have hn : n = 2 := by simpa [z_ok] using hok
    subst hn
    simp only [z_step, z_rfs] at hs
    split at hs
    · exact lv_astore hx hb hd hl hs.1 rfl (fun ls' hl' => hN _ _ _ _ _ hs.2 H locs ls' hp hS (z_has hl'))
    · exact lv_astoreN hx hb hd hl hs.1 rfl (fun ls' hl' => hN _ _ _ _ _ hs.2 H locs ls' hp hS (z_has hl'))
    · exact hs.elim
  case iinc k d =>
    have hn : n = 3 := by simpa [z_ok] using hok
    subst hn
    simp only [z_step, z_int] at hs
    split at hs
    · rename_i x hq
      obtain ⟨j, hj⟩ := List.getElem?_of_mem (z_lkm _ _ _ hq)
      exact lv_iinc hx hb hd hl hj rfl hs.1 rfl (fun ls' hl' => hN _ _ _ _ _ hs.2 H locs ls' hp hS (z_has hl'))
    · exact hs.elim
  case iadd =>
    have hn : n = 1 := by simpa [z_ok] using hok
    subst hn
    simp only [z_step, z_i2] at hs
    split at hs
    · exact lv_iadd hx hb hd (hN _ _ _ _ _ hs H locs ls hp hS hl)
    · exact hs.elim
  case isub =>
    have hn : n = 1 := by simpa [z_ok] using hok
    subst hn
    simp only [z_step, z_i2] at hs
    split at hs
    · exact lv_isub hx hb hd (hN _ _ _ _ _ hs H locs ls hp hS hl)
    · exact hs.elim
  case imul =>
    have hn : n = 1 := by simpa [z_ok] using hok
    subst hn
    simp only [z_step, z_i2] at hs
    split at hs
    · exact lv_imul hx hb hd (hN _ _ _ _ _ hs H locs ls hp hS hl)
    · exact hs.elim
  case iand =>
    have hn : n = 1 := by simpa [z_ok] using hok
    subst hn
    simp only [z_step, z_i2] at hs
    split at hs
    · exact lv_iand hx hb hd (hN _ _ _ _ _ hs H locs ls hp hS hl)
    · exact hs.elim
  case ior =>
    have hn : n = 1 := by simpa [z_ok] using hok
    subst hn
    simp only [z_step, z_i2] at hs
    split at hs
    · exact lv_ior hx hb hd (hN _ _ _ _ _ hs H locs ls hp hS hl)
    · exact hs.elim
  case ishl =>
    have hn : n = 1 := by simpa [z_ok] using hok
    subst hn
    simp only [z_step, z_i2] at hs
    split at hs
    · exact lv_ishl hx hb hd (hN _ _ _ _ _ hs H locs ls hp hS hl)
    · exact hs.elim
  case ishr =>
    have hn : n = 1 := by simpa [z_ok] using hok
    subst hn
    simp only [z_step, z_i2] at hs
    split at hs
    · exact lv_ishr hx hb hd (hN _ _ _ _ _ hs H locs ls hp hS hl)
    · exact hs.elim
  case idiv =>
    have hn : n = 1 := by simpa [z_ok] using hok
    subst hn
    simp only [z_step, z_i2] at hs
    split at hs
    · exact lv_idiv hx hb hd hs.1 (hN _ _ _ _ _ hs.2 H locs ls hp hS hl)
    · exact hs.elim
  case irem =>
    have hn : n = 1 := by simpa [z_ok] using hok
    subst hn
    simp only [z_step, z_i2] at hs
    split at hs
    · exact lv_irem hx hb hd hs.1 (hN _ _ _ _ _ hs.2 H locs ls hp hS hl)
    · exact hs.elim
  case i2l =>
    have hn : n = 1 := by simpa [z_ok] using hok
    subst hn
    simp only [z_step, z_i1] at hs
    split at hs
    · exact lv_i2l hx hb hd rfl (hN _ _ _ _ _ hs H locs ls hp hS hl)
    · exact hs.elim
  case l2i =>
    have hn : n = 1 := by simpa [z_ok] using hok
    subst hn
    simp only [z_step, z_l1] at hs
    split at hs
    · exact lv_l2i hx hb hd rfl (hN _ _ _ _ _ hs H locs ls hp hS hl)
    · exact hs.elim
  case i2b =>
    have hn : n = 1 := by simpa [z_ok] using hok
    subst hn
    simp only [z_step, z_i1] at hs
    split at hs
    · exact lv_i2b hx hb hd rfl (hN _ _ _ _ _ hs H locs ls hp hS hl)
    · exact hs.elim
  case i2c =>
    have hn : n = 1 := by simpa [z_ok] using hok
    subst hn
    simp only [z_step, z_i1] at hs
    split at hs
    · exact lv_i2c hx hb hd rfl (hN _ _ _ _ _ hs H locs ls hp hS hl)
    · exact hs.elim
  case lor =>
    have hn : n = 1 := by simpa [z_ok] using hok
    subst hn
    simp only [z_step, z_l2] at hs
    split at hs
    · exact lv_lor hx hb hd (hN _ _ _ _ _ hs H locs ls hp hS hl)
    · exact hs.elim
  case land =>
    have hn : n = 1 := by simpa [z_ok] using hok
    subst hn
    simp only [z_step, z_l2] at hs
    split at hs
    · exact lv_land hx hb hd (hN _ _ _ _ _ hs H locs ls hp hS hl)
    · exact hs.elim
  case lshl =>
    have hn : n = 1 := by simpa [z_ok] using hok
    subst hn
    simp only [z_step, z_li] at hs
    split at hs
    · exact lv_lshl hx hb hd rfl (hN _ _ _ _ _ hs H locs ls hp hS hl)
    · exact hs.elim
  case lshr =>
    have hn : n = 1 := by simpa [z_ok] using hok
    subst hn
    simp only [z_step, z_li] at hs
    split at hs
    · exact lv_lshr hx hb hd rfl (hN _ _ _ _ _ hs H locs ls hp hS hl)
    · exact hs.elim
  case lushr =>
    have hn : n = 1 := by simpa [z_ok] using hok
    subst hn
    simp only [z_step, z_li] at hs
    split at hs
    · exact lv_lushr hx hb hd rfl (hN _ _ _ _ _ hs H locs ls hp hS hl)
    · exact hs.elim
  case dup =>
    have hn : n = 1 := by simpa [z_ok] using hok
    subst hn
    simp only [z_step, z_v1] at hs
    split at hs
    · exact lv_dup hx hb hd (z_cat hs.1) (hN _ _ _ _ _ hs.2 H locs ls hp hS hl)
    · exact hs.elim
  case dup2 =>
    have hn : n = 1 := by simpa [z_ok] using hok
    subst hn
    simp only [z_step, z_v2] at hs
    split at hs
    · exact lv_dup2_11 hx hb hd (z_cat hs.1) (z_cat hs.2.1) (hN _ _ _ _ _ hs.2.2 H locs ls hp hS hl)
    · exact hs.elim
  case pop =>
    have hn : n = 1 := by simpa [z_ok] using hok
    subst hn
    simp only [z_step, z_v1] at hs
    split at hs
    · exact lv_pop hx hb hd (z_cat hs.1) (hN _ _ _ _ _ hs.2 H locs ls hp hS hl)
    · exact hs.elim
  case aconst_null =>
    have hn : n = 1 := by simpa [z_ok] using hok
    subst hn
    exact lv_null hx hb hd (hN _ _ _ _ _ hs H locs ls hp hS hl)
  case goto off =>
    have hn : n = 3 ∧ 0 ≤ (pc : Int) + off := by simpa [z_ok] using hok
    obtain ⟨rfl, ho⟩ := hn
    exact lv_goto hx hb hd (z_tgI ho) (hKK _ _ _ _ _ _ hs H locs ls hp hS hl)
  case if_icmp cd off =>
    have hn : n = 3 ∧ 0 ≤ (pc : Int) + off := by simpa [z_ok] using hok
    obtain ⟨rfl, ho⟩ := hn
    simp only [z_step, z_i2] at hs
    split at hs
    · obtain ⟨h1, h2⟩ := hs
      cases cd
      · exact lv_icmp_eq hx hb hd (z_tgI ho) (fun z => hKK _ _ _ _ _ _ (h1 z) H locs ls hp hS hl) (fun z => hN _ _ _ _ _ (h2 z) H locs ls hp hS hl)
      · exact lv_icmp_ne hx hb hd (z_tgI ho) (fun z => hKK _ _ _ _ _ _ (h1 z) H locs ls hp hS hl) (fun z => hN _ _ _ _ _ (h2 (fun q => q z)) H locs ls hp hS hl)
      · exact lv_icmp_lt hx hb hd (z_tgI ho) (fun z => hKK _ _ _ _ _ _ (h1 z) H locs ls hp hS hl) (fun z => hN _ _ _ _ _ (h2 z) H locs ls hp hS hl)
      · exact lv_icmp_ge hx hb hd (z_tgI ho) (fun z => hKK _ _ _ _ _ _ (h1 z) H locs ls hp hS hl) (fun z => hN _ _ _ _ _ (h2 z) H locs ls hp hS hl)
      · exact lv_icmp_gt hx hb hd (z_tgI ho) (fun z => hKK _ _ _ _ _ _ (h1 z) H locs ls hp hS hl) (fun z => hN _ _ _ _ _ (h2 z) H locs ls hp hS hl)
      · exact lv_icmp_le hx hb hd (z_tgI ho) (fun z => hKK _ _ _ _ _ _ (h1 z) H locs ls hp hS hl) (fun z => hN _ _ _ _ _ (h2 z) H locs ls hp hS hl)
    · exact hs.elim
  case ifCond cd off =>
    have hn : n = 3 ∧ 0 ≤ (pc : Int) + off := by simpa [z_ok] using hok
    obtain ⟨rfl, ho⟩ := hn
    simp only [z_step, z_i1] at hs
    split at hs
    · obtain ⟨h1, h2⟩ := hs
      cases cd
      · exact lv_if_eq hx hb hd (z_tgI ho) (fun z => hKK _ _ _ _ _ _ (h1 z) H locs ls hp hS hl) (fun z => hN _ _ _ _ _ (h2 z) H locs ls hp hS hl)
      · exact lv_if_ne hx hb hd (z_tgI ho) (fun z => hKK _ _ _ _ _ _ (h1 z) H locs ls hp hS hl) (fun z => hN _ _ _ _ _ (h2 (fun q => q z)) H locs ls hp hS hl)
      · exact lv_if_lt hx hb hd (z_tgI ho) (fun z => hKK _ _ _ _ _ _ (h1 z) H locs ls hp hS hl) (fun z => hN _ _ _ _ _ (h2 z) H locs ls hp hS hl)
      · exact lv_if_ge hx hb hd (z_tgI ho) (fun z => hKK _ _ _ _ _ _ (h1 z) H locs ls hp hS hl) (fun z => hN _ _ _ _ _ (h2 z) H locs ls hp hS hl)
      · exact lv_if_gt hx hb hd (z_tgI ho) (fun z => hKK _ _ _ _ _ _ (h1 z) H locs ls hp hS hl) (fun z => hN _ _ _ _ _ (h2 z) H locs ls hp hS hl)
      · exact lv_if_le hx hb hd (z_tgI ho) (fun z => hKK _ _ _ _ _ _ (h1 z) H locs ls hp hS hl) (fun z => hN _ _ _ _ _ (h2 z) H locs ls hp hS hl)
    · exact hs.elim
  case ifnull off =>
    have hn : n = 3 ∧ 0 ≤ (pc : Int) + off := by simpa [z_ok] using hok
    obtain ⟨rfl, ho⟩ := hn
    simp only [z_step, z_nul] at hs
    split at hs
    · exact lv_ifnull hx hb hd (hN _ _ _ _ _ hs H locs ls hp hS hl)
    · exact lv_ifnullN hx hb hd (z_tgI ho) (hKK _ _ _ _ _ _ hs H locs ls hp hS hl)
    · exact hs.elim
  case ifnonnull off =>
    have hn : n = 3 ∧ 0 ≤ (pc : Int) + off := by simpa [z_ok] using hok
    obtain ⟨rfl, ho⟩ := hn
    simp only [z_step, z_nul] at hs
    split at hs
    · exact lv_ifnonnull hx hb hd (z_tgI ho) (hKK _ _ _ _ _ _ hs H locs ls hp hS hl)
    · exact lv_ifnonnullN hx hb hd (hN _ _ _ _ _ hs H locs ls hp hS hl)
    · exact hs.elim
  case tableswitch d lo hi os =>
    have hn : (0 ≤ (pc : Int) + d ∧ (∀ j (hj : j < os.size), 0 ≤ (pc : Int) + os[j])) ∧ hi = lo + os.size - 1 := by simpa [z_ok] using hok
    obtain ⟨⟨ho, hoj⟩, rfl⟩ := hn
    simp only [z_step, z_i1] at hs
    split at hs
    · rename_i x r
      obtain ⟨h1, h2⟩ := hs
      by_cases out : x.toInt < lo ∨ lo + os.size - 1 < x.toInt
      · exact lv_tableOut hx hb hd out (z_tgI ho) (hKK _ _ _ _ _ _ (h2 out) H locs ls hp hS hl)
      · have hj : (x.toInt - lo).toNat < os.size := by omega
        exact lv_tableIn hx hb hd (by omega) (by omega) (Array.getElem?_eq_getElem hj) (z_tgI (hoj _ hj)) (hKK _ _ _ _ _ _ (h1 ⟨_, hj⟩ (by simp only; omega)) H locs ls hp hS hl)
    · exact hs.elim
  case getfield k =>
    have hn : n = 3 := by simpa [z_ok] using hok
    subst hn
    obtain ⟨hk0, hs⟩ := hs
    simp only [z_r1] at hs
    split at hs
    · rename_i a r
      cases hc : z_lk E.2.1 (200000 + k) with
      | some v =>
        simp only [hc, z_oc] at hs
        obtain ⟨h1, hs⟩ := hs
        rcases hlcs _ (z_lkm _ _ _ hc) with ⟨x, -, -, z⟩ | ⟨a, -, -, z⟩ | ⟨i, C, nn, d, e1, z, -⟩ | ⟨i, a', nn, d, e1, -, e2, e3, e4⟩ | e1
        · simp only at z; omega
        · simp only at z; omega
        · simp only at e1; omega
        · simp only at e1 e2 e3 e4
          have z : k = i := by omega
          subst z
          rw [h1] at e2
          cases e2
          exact vk_getf hx hb e3 hS hown (hts _ e4) (fun _ z => z) hd (hN _ _ _ _ _ hs H locs ls hp hS hl)
        · simp only at e1; omega
      | none =>
        simp only [hc, z_oc] at hs
        cases hq : z_lk E.1 k with
        | none => simp only [hq, z_sm] at hs
        | some q =>
          obtain ⟨ci, sk, kd⟩ := q
          simp only [hq, z_sm, z_obj] at hs
          split at hs
          · rename_i t c9 fs hh
            obtain ⟨rfl, hs⟩ := hs
            split at hs
            · rename_i v hv
              obtain ⟨hc8, hkN, -, hin, hlk⟩ := hEf _ (z_lkm _ _ _ hq)
              obtain ⟨L, f, k', h1, h2, hm, hr, hk, hP, hD⟩ := z_rd hp hh
              have hr : f a = .inr (c9, fs) := hr
              exact va_get (D := D) (tys := []) hx hb hts hin hown hK hP k' (by rw [hk, hr]) (z_cl hc8) _ hkN (hts _ hlk) (fun _ z => z) hv hd (hN _ _ _ _ _ hs H locs ls hp hS hl)
            · exact hs.elim
          · exact hs.elim
    · exact hs.elim
  case putfield k =>
    have hn : n = 3 := by simpa [z_ok] using hok
    subst hn
    simp only [z_step, z_rv] at hs
    split at hs
    · rename_i v a r
      cases hq : z_lk E.1 k with
      | none => simp only [hq, z_sm] at hs
      | some q =>
        obtain ⟨ci, sk, kd⟩ := q
        simp only [hq, z_sm, z_obj] at hs
        obtain ⟨hft, hs⟩ := hs
        split at hs
        · rename_i t c9 fs hh
          obtain ⟨rfl, hlen, hs⟩ := hs
          obtain ⟨hc8, hkN, hcase, hin, hlk⟩ := hEf _ (z_lkm _ _ _ hq)
          simp only at hc8 hkN hcase hin hlk
          obtain ⟨L, f, k', h1, h2, hm, hr, hk, hP, hD⟩ := z_rd hp hh
          have hr : f a = .inr (c9, fs) := hr
          rcases hcase with ⟨hfin, hkd⟩ | ⟨hfin, hkd | ⟨hi, hdecl, hkd⟩⟩
          · rw [hkd] at hft
            exact va_put (D := D) (tys := []) hx hb hts hin (z_F c9) (z_tyok hc8) (z_nm hc8) hown hK hP hD hS k' (by rw [hk, hr]) (z_cl hc8) _ hkN (hts _ hlk) (fun _ z => z) hfin (z_tyok hc8 _ hkN) (z_fit_ok hft).1 (z_fit_ok hft).2 hlen hd (fun H1 locs1 hP1 hD1 hS1 => hN _ _ _ _ _ hs H1 locs1 ls (z_wr h1 h2 hm hk hD t rfl hP1 hD1) hS1 hl)
          · rw [hkd] at hft
            simp only [z_fit] at hft
          · rw [hkd] at hft
            exact va_putF (D := D) (tys := []) hx hb hts hin (z_F c9) (z_tyok hc8) (z_nm hc8) hown hK hP hD hS k' (by rw [hk, hr]) (z_cl hc8) _ hkN (hts _ hlk) (fun _ z => z) hfin (hini hi) hdecl (z_tyok hc8 _ hkN) (z_fit_ok hft).1 (z_fit_ok hft).2 hlen hd (fun H1 locs1 hP1 hD1 hS1 => hN _ _ _ _ _ hs H1 locs1 ls (z_wr h1 h2 hm hk hD t rfl hP1 hD1) hS1 hl)
        · exact hs.elim
    · exact hs.elim
  case arraylength =>
    have hn : n = 1 := by simpa [z_ok] using hok
    subst hn
    simp only [z_step, z_r1] at hs
    split at hs
    · rename_i a r
      simp only [z_len] at hs
      split at hs
      · rename_i t kd x _ hh
        obtain ⟨L, f, k', h1, h2, hm, ⟨cA, hr1, hr2⟩, hk, hP, hD⟩ := z_rd hp hh
        exact va_alen hx hb hr1 hP k' 0 (by rw [hk, hr2]) rfl rfl hd (hN _ _ _ _ _ hs H locs ls hp hS hl)
      · rename_i q _ hq
        rcases hX a q hq with ⟨-, x1, x2, x3⟩ | ⟨-, x1⟩
        · exact va_slen hx hb x1 x2 x3 hS hd (hN _ _ _ _ _ hs H locs ls hp hS hl)
        · exact va_tlen hx hb x1 hS rfl hd (hN _ _ _ _ _ hs H locs ls hp hS hl)
      · exact hs.elim
    · exact hs.elim
  case iaload =>
    have hn : n = 1 := by simpa [z_ok] using hok
    subst hn
    simp only [z_step, z_ri] at hs
    split at hs
    · rename_i i a r
      simp only [z_rdx] at hs
      split at hs
      · rename_i t kd n g _ hh
        obtain ⟨rfl, hi, hs⟩ := hs
        obtain ⟨L, f, k', h1, h2, hm, ⟨cA, hr1, hr2⟩, hk, hP, hD⟩ := z_rd hp hh
        exact va_iald hx hb hr1 hP k' 0 (by rw [hk, hr2]) rfl hi hd (hN _ _ _ _ _ hs H locs ls hp hS hl)
      · rename_i q _ hq
        obtain ⟨hk1, hi, hs⟩ := hs
        rcases hX a q hq with ⟨-, x1, x2, x3⟩ | ⟨hk0, x1⟩
        · exact va_sld hx hb x1 x2 x3 hS hi hd (hN _ _ _ _ _ hs H locs ls hp hS hl)
        · omega
      · exact hs.elim
    · exact hs.elim
  case baload =>
    have hn : n = 1 := by simpa [z_ok] using hok
    subst hn
    simp only [z_step, z_ri] at hs
    split at hs
    · rename_i i a r
      simp only [z_rdx] at hs
      split at hs
      · rename_i t kd n g _ hh
        obtain ⟨rfl | rfl, hi, hs⟩ := hs
        · obtain ⟨L, f, k', h1, h2, hm, ⟨cA, hr1, hr2⟩, hk, hP, hD⟩ := z_rd hp hh
          exact va_bald hx hb hr1 hP k' 0 (by rw [hk, hr2]) rfl hi hd (hN _ _ _ _ _ hs H locs ls hp hS hl)
        · obtain ⟨L, f, k', h1, h2, hm, ⟨cA, hr1, hr2⟩, hk, hP, hD⟩ := z_rd hp hh
          exact va_zald hx hb hr1 hP k' 0 (by rw [hk, hr2]) rfl hi hd (hN _ _ _ _ _ hs H locs ls hp hS hl)
      · rename_i q _ hq
        obtain ⟨hk1, hi, hs⟩ := hs
        rcases hX a q hq with ⟨hk0, x1⟩ | ⟨-, x1⟩
        · omega
        · exact va_tb hx hb x1 hS hi rfl hd (hN _ _ _ _ _ hs H locs ls hp hS hl)
      · exact hs.elim
    · exact hs.elim
  case aaload =>
    have hn : n = 1 := by simpa [z_ok] using hok
    subst hn
    simp only [z_step, z_ri] at hs
    split at hs
    · rename_i i a r
      simp only [z_rrw] at hs
      split at hs
      · rename_i t n g hh
        obtain ⟨hi, hs⟩ := hs
        obtain ⟨L, f, k', h1, h2, hm, ⟨cA, hr1, hr2⟩, hk, hP, hD⟩ := z_rd hp hh
        exact va_aldq (C := RX0) hx hb hr1 hP k' 0 (by rw [hk, hr2]) rfl hi hd (hN _ _ _ _ _ hs H locs ls hp hS hl)
      · exact hs.elim
    · exact hs.elim
  case iastore =>
    have hn : n = 1 := by simpa [z_ok] using hok
    subst hn
    simp only [z_step, z_rii] at hs
    split at hs
    · rename_i x i a r
      simp only [z_row] at hs
      split at hs
      · rename_i t kd n g hh
        obtain ⟨rfl, hi, hs⟩ := hs
        obtain ⟨L, f, k', h1, h2, hm, ⟨cA, hr1, hr2⟩, hk, hP, hD⟩ := z_rd hp hh
        exact va_iast hx hb hr1 hP hD hS k' 0 (by rw [hk, hr2]) rfl hi hd (fun H1 locs1 hP1 hD1 hS1 => hN _ _ _ _ _ hs H1 locs1 ls (z_wr h1 h2 hm hk hD t ⟨cA, hr1, rfl⟩ hP1 hD1) hS1 hl)
      · exact hs.elim
    · exact hs.elim
  case bastore =>
    have hn : n = 1 := by simpa [z_ok] using hok
    subst hn
    simp only [z_step, z_rii] at hs
    split at hs
    · rename_i x i a r
      simp only [z_row] at hs
      split at hs
      · rename_i t kd n g hh
        obtain ⟨rfl | rfl, hi, hs⟩ := hs
        · obtain ⟨L, f, k', h1, h2, hm, ⟨cA, hr1, hr2⟩, hk, hP, hD⟩ := z_rd hp hh
          exact va_bast hx hb hr1 hP hD hS k' 0 (by rw [hk, hr2]) rfl hi hd (fun H1 locs1 hP1 hD1 hS1 => hN _ _ _ _ _ hs H1 locs1 ls (z_wr h1 h2 hm hk hD t ⟨cA, hr1, rfl⟩ hP1 hD1) hS1 hl)
        · obtain ⟨L, f, k', h1, h2, hm, ⟨cA, hr1, hr2⟩, hk, hP, hD⟩ := z_rd hp hh
          exact va_zast hx hb hr1 hP hD hS k' 0 (by rw [hk, hr2]) rfl hi hd (fun H1 locs1 hP1 hD1 hS1 => hN _ _ _ _ _ hs H1 locs1 ls (z_wr h1 h2 hm hk hD t ⟨cA, hr1, rfl⟩ hP1 hD1) hS1 hl)
      · exact hs.elim
    · exact hs.elim
  case aastore =>
    have hn : n = 1 := by simpa [z_ok] using hok
    subst hn
    simp only [z_step, z_rir] at hs
    split at hs
    · rename_i v i a r
      simp only [z_rrw] at hs
      split at hs
      · rename_i t n g hh
        simp only [z_obj] at hs
        split at hs
        · rename_i t9 c9 fs hv
          obtain ⟨rfl, hi, hs⟩ := hs
          obtain ⟨L, f, k', h1, h2, hm, ⟨cA, hr1, hr2⟩, hk, hP, hD⟩ := z_rd hp hh
          obtain ⟨t8, x8, e8, r8⟩ := h1 v (by
            by_cases z : v ∈ L
            · exact z
            · rw [h2 v z] at hv
              cases hv)
          rw [hv] at e8
          cases e8
          have hvL : v ∈ L := by
            by_cases z : v ∈ L
            · exact z
            · rw [h2 v z] at hv
              cases hv
          obtain ⟨kv, hkv⟩ := va_pl_get (X := []) (f := f) hvL
          have r8 : f v = .inr (0, fs) := r8
          exact va_astq (r := (RX0, TX0, 3)) hx hb hr1 hP hD hS k' 0 kv 0 (by rw [hk, hr2]) rfl (by rw [← r8]; exact hkv) rfl hi hd (fun H1 locs1 hP1 hD1 hS1 => hN _ _ _ _ _ hs H1 locs1 ls (z_wr h1 h2 hm hk hD t ⟨cA, hr1, rfl⟩ hP1 hD1) hS1 hl)
        · exact hs.elim
      · exact hs.elim
    · exact hs.elim
  case newarray ty =>
    have hn : n = 2 := by simpa [z_ok] using hok
    subst hn
    simp only [z_step, z_i1] at hs
    split at hs
    · rename_i x r
      obtain ⟨ha, hlk, hx0, hxm, hc1, hc2, t, hs⟩ := hs
      rcases hEb _ (z_lkm _ _ _ hlk) with ⟨z, -⟩ | ⟨z, -⟩ | ⟨-, hw⟩ | ⟨z, -⟩ | ⟨z, -⟩ | ⟨z, -⟩ | ⟨z, -⟩ | ⟨z, -⟩
      · simp only at z; omega
      · simp only at z; omega
      rotate_left
      · simp only at z; omega
      · simp only at z; omega
      · simp only at z; omega
      · simp only at z; omega
      · simp only at z; omega
      · have hw : Jvm.Cond.arrayClass (newarray.typeOf ty) ∈ ws := by
          cases ty <;> simp [z_ak] at ha <;> simpa [z_ak, newarray.typeOf] using hw
        obtain ⟨L, f, h1, h2, hP, hD⟩ := hp
        have hb2 : x.toNatClampNeg * componentBytes (newarray.typeOf ty) ≤ 536870912 := by
          cases ty <;> simp [z_ak] at ha <;> simp [newarray.typeOf, componentBytes] <;> omega
        have hcell : ∀ cA : ClassId, vp_cell cA (x.toNatClampNeg, .inl (fun _ => 0)) = arrV cA x.toNatClampNeg (fun _ => defaultValue (newarray.typeOf ty)) := by
          cases ty <;> simp [z_ak] at ha <;> intro cA <;> rfl
        refine va_newa (D := D) (cl := vwCl) (tys := []) hx hb (hts _ hw) rfl hK hP hD hS hA hcell hx0 rfl hb2 (by rw [hRc]; exact hc1) (by rw [hRs]; exact hc2) hd (fun q cA H1 hK1 hP1 hD1 hS1 => ?_)
        have hz : z_ty (z_ak ty) = newarray.typeOf ty := by cases ty <;> simp [z_ak] at ha <;> rfl
        obtain ⟨e1, e2⟩ := z_nw h1 h2 t (x' := .inl (z_ak ty, x.toNatClampNeg, .inl (fun _ => 0))) ⟨cA, by rw [show ((z_ak ty, x.toNatClampNeg, Sum.inl (fun _ => 0)) : Nat × vp_A).1 = z_ak ty from rfl, hz]; exact hK1, rfl⟩ hP1 hD1
        exact hN _ _ _ _ _ (hs q e1) H1 locs ls e2 hS1 hl
    · exact hs.elim
  case anewarray y =>
    have hn : n = 3 := by simpa [z_ok] using hok
    subst hn
    simp only [z_step, z_i1] at hs
    split at hs
    · rename_i x r
      obtain ⟨ha, hx0, hxm, hc1, hc2, t, hs⟩ := hs
      rcases hEn _ (z_lkm _ _ _ ha) with ⟨z, -⟩ | ⟨-, hw1, hw2⟩
      · simp only at z; omega
      · obtain ⟨L, f, h1, h2, hP, hD⟩ := hp
        refine va_newq (D := D) (cl := vwCl) (tys := []) (C := RX0) hx hb hown (hts _ hw1) hao hK hP hD hS hA hx0 rfl (by omega) (by rw [hRc]; exact hc1) (by rw [hRs]; exact hc2) hd (fun q cA H1 hK1 hP1 hD1 hS1 => ?_)
        obtain ⟨e1, e2⟩ := z_nw h1 h2 t (x' := .inl (3, x.toNatClampNeg, .inr (.inr (.inr (.inr (fun _ => none)))))) ⟨cA, hK1, rfl⟩ hP1 hD1
        exact hN _ _ _ _ _ (hs q e1) H1 locs ls e2 hS1 hl
    · exact hs.elim
  case new y =>
    have hn : n = 3 := by simpa [z_ok] using hok
    subst hn
    cases hq : z_lk E.2.2.1 y with
    | none => simp only [z_step, hq, z_sm] at hs
    | some ci =>
      simp only [z_step, hq, z_sm] at hs
      obtain ⟨hc8, hc1, hc2, t, hs⟩ := hs
      rcases hEn _ (z_lkm _ _ _ hq) with ⟨-, hin, w1, w2, w3⟩ | ⟨z, -⟩
      · obtain ⟨L, f, h1, h2, hP, hD⟩ := hp
        refine va_new (D := D) (cl := vwCl) (tys := []) (ci := ci) (fs := z_df ci) hx hb hts hin (z_F ci) (z_tyok hc8) hown (hts _ w1) (hts _ w2) (hts _ w3) hK hP hD hS hA (z_cl hc8) (fun j hj => by simp [vp_V, z_df, hj]) (by rw [hRc]; exact hc1) (by rw [hRs]; exact hc2) hd (fun q H1 hP1 hD1 hS1 => ?_)
        obtain ⟨e1, e2⟩ := z_nw h1 h2 t (x' := .inr (ci, z_df ci)) rfl hP1 hD1
        exact hN _ _ _ _ _ (hs q e1) H1 locs ls e2 hS1 hl
      · simp only at z; omega
  case invokespecial y =>
    have hn : n = 3 := by simpa [z_ok] using hok
    subst hn
    simp only [z_step, z_r1] at hs
    split at hs
    · obtain ⟨ha, rfl, hs⟩ := hs
      rcases hEb _ (z_lkm _ _ _ ha) with ⟨-, f1, f2, w1, w2, w3⟩ | ⟨z, -⟩ | ⟨z, -⟩ | ⟨z, -⟩ | ⟨z, -⟩ | ⟨z, -⟩ | ⟨z, -⟩ | ⟨z, -⟩
      · refine W.objInit hx hb hown (hts _ w1) (hts _ w2) (hts _ w3) rfl (by rw [hml]; exact hl.1) rfl hd (by omega) ?_ ?_
        · show 2 * 0 + 0 + 12 ≤ R.locals
          omega
        · exact hN _ _ _ _ _ hs H locs ls hp hS hl
      all_goals (simp only at z; omega)
    · exact hs.elim
  case invokestatic y =>
    have hn : n = 3 := by simpa [z_ok] using hok
    subst hn
    have hc9 : ∀ v : Value, v.category ≤ 2 := fun v => by cases v <;> simp [Value.category]
    have hsum : ∀ r : List Value, r.length ≤ 4 → (r.map fun v => v.category).sum ≤ 8 := by
      intro r hr3
      match r, hr3 with
      | [], _ => simp
      | [a], _ => have := hc9 a; simp; omega
      | [a, b], _ => have := hc9 a; have := hc9 b; simp; omega
      | [a, b, d], _ => have := hc9 a; have := hc9 b; have := hc9 d; simp; omega
      | [a, b, d, f], _ => have := hc9 a; have := hc9 b; have := hc9 d; have := hc9 f; simp; omega
      | a :: b :: d :: f :: g :: r, z => simp at z
    simp only [z_step, z_bs] at hs
    split at hs
    · rename_i ha
      simp only [z_i2] at hs
      split at hs
      · rename_i y' x r
        obtain ⟨hr3, hc1, hc2, hs⟩ := hs
        have := hsum r hr3
        rcases hEb _ (z_lkm _ _ _ ha) with ⟨z, -⟩ | ⟨-, f1, f2, w1, w2, w3, w4⟩ | ⟨z, -⟩ | ⟨z, -⟩ | ⟨z, -⟩ | ⟨z, -⟩ | ⟨z, -⟩ | ⟨z, -⟩
        · simp only at z; omega
        · exact va_mmin hx hb (by rw [hml]; exact hl.1.symm) hown (hts _ w1) (hts _ w2) (hts _ w3) (hts _ w4) (by omega) (by omega) (by omega) (by omega) hd (hN _ _ _ _ _ hs H locs ls hp hS hl)
        all_goals (simp only at z; omega)
      · exact hs.elim
    · rename_i ha
      simp only [z_i2] at hs
      split at hs
      · rename_i y' x r
        obtain ⟨hr3, hc1, hc2, hs⟩ := hs
        have := hsum r hr3
        rcases hEb _ (z_lkm _ _ _ ha) with ⟨z, -⟩ | ⟨z, -⟩ | ⟨z, -⟩ | ⟨z, -⟩ | ⟨z, -⟩ | ⟨z, -⟩ | ⟨z, -⟩ | ⟨-, f1, f2, w1, w2, w3, w4⟩
        rotate_right
        · exact va_mmax hx hb (by rw [hml]; exact hl.1.symm) hown (hts _ w1) (hts _ w2) (hts _ w3) (hts _ w4) (by omega) (by omega) (by omega) (by omega) hd (hN _ _ _ _ _ hs H locs ls hp hS hl)
        all_goals (simp only at z; omega)
      · exact hs.elim
    · rename_i ha
      simp only [z_acp] at hs
      split at hs
      · rename_i k9 dp d sp a r
        obtain ⟨rfl, hs⟩ := hs
        simp only [z_row] at hs
        split at hs
        · rename_i t0 kd0 n0 f0 hh0
          obtain ⟨rfl, hs⟩ := hs
          split at hs
          · rename_i t kd n1 g hh
            obtain ⟨rfl, b1, b2, b3, b4, b5, hs⟩ := hs
            rcases hEb _ (z_lkm _ _ _ ha) with ⟨z, -⟩ | ⟨z, -⟩ | ⟨z, -⟩ | ⟨z, -⟩ | ⟨-, f1, f2, w1, w2, w3, w4⟩ | ⟨z, -⟩ | ⟨z, -⟩ | ⟨z, -⟩
            rotate_left 4
            · obtain ⟨L, f, k', h1, h2, hm, ⟨cA, hr1, hr2⟩, hk, hP, hD⟩ := z_rd hp hh
              have hmL : a ∈ L := by
                by_cases z : a ∈ L
                · exact z
                · rw [h2 a z] at hh0
                  cases hh0
              obtain ⟨t8, x8, e8, r8⟩ := h1 a hmL
              rw [hh0] at e8
              cases e8
              obtain ⟨cB, hq1, hq2⟩ := r8
              obtain ⟨kv, hkv⟩ := va_pl_get (X := []) (f := f) hmL
              rw [List.nil_append] at hkv
              exact va_copyi (ty := .int) hx hb (by rw [hml]; exact hl.1.symm) hown (hts _ w1) (hts _ w2) (hts _ w3) (hts _ w4) (hq1.app hr1) hP hD hS kv k' 0 1 (by rw [hkv, hq2]) (by rw [hk, hr2]) rfl rfl rfl b1 b2 b3 b4 b5 (fun _ _ => rfl) (by omega) (by show 0 + (nativeFrameWords "java/lang/System" "arraycopy" 5 + 11) ≤ R.locals; exact Nat.le_trans (by decide) (Nat.le_trans f2 hRl)) hd (fun H1 locs1 hP1 hD1 hS1 => hN _ _ _ _ _ hs H1 locs1 ls (z_wr h1 h2 hm hk hD t ⟨cA, hr1, rfl⟩ hP1 hD1) hS1 hl)
            all_goals (simp only at z; omega)
          · exact hs.elim
        · exact hs.elim
      · exact hs.elim
    · exact hs.elim
  case invokevirtual y =>
    have hn : n = 3 := by simpa [z_ok] using hok
    subst hn
    simp only [z_step, z_r1] at hs
    split at hs
    · rename_i a r
      obtain ⟨ha, rfl, hs⟩ := hs
      simp only [z_row] at hs
      split at hs
      · rename_i t0 kd n g hh
        obtain ⟨rfl, hc1, hc2, t, hs⟩ := hs
        rcases hEb _ (z_lkm _ _ _ ha) with ⟨z, -⟩ | ⟨z, -⟩ | ⟨z, -⟩ | ⟨z, -⟩ | ⟨z, -⟩ | ⟨-, f1, f2, w1, w2, w3, w4, w5⟩ | ⟨z, -⟩ | ⟨z, -⟩
        rotate_left 5
        · obtain ⟨L, f, k', h1, h2, hm, ⟨cA, hr1, hr2⟩, hk, hP, hD⟩ := z_rd hp hh
          refine va_clone (D := D) (cl := vwCl) (tys := [(cA, .int)]) hx hb (by rw [hml]; exact hl.1.symm) hown (hts _ w1) (hts _ w2) (hts _ w3) (hts _ w4) (hts _ w5) hcast hr1 hP hD hS hA k' 0 (by rw [hk, hr2]) rfl (hr1.2 0 _ rfl).2 ?_ (by omega) (by show 0 + 14 ≤ R.locals; omega) (by rw [hRc]; exact hc1) (by rw [hRs]; exact hc2) hd (fun q H1 hK1 hP1 hD1 hS1 => ?_)
          · intro i v hv
            have : v = .int (g i) := by
              have hlt := (Array.getElem?_eq_some_iff.mp hv).1
              have hsz : i < n := by
                have := arrV_size cA n (fun j => Value.int (g j))
                simp only [vp_cell] at hlt
                omega
              have := arrV_read (cI := cA) (N := n) (f := fun j => Value.int (g j)) (j := i) hsz
              simp only [vp_cell] at hv
              rw [this] at hv
              exact (Option.some.inj hv).symm
            rw [this]
            rfl
          · obtain ⟨e1, e2⟩ := z_nw h1 h2 t (x' := .inl (1, n, .inl g)) ⟨cA, hr1, rfl⟩ hP1 hD1
            exact hN _ _ _ _ _ (hs q e1) H1 locs ls e2 hS1 hl
        all_goals (simp only at z; omega)
      · exact hs.elim
    · exact hs.elim
  case checkcast y =>
    have hn : n = 3 := by simpa [z_ok] using hok
    subst hn
    simp only [z_step, z_r1] at hs
    split at hs
    · rename_i a r
      obtain ⟨ha, hs⟩ := hs
      simp only [z_row] at hs
      split at hs
      · rename_i t0 kd n g hh
        obtain ⟨rfl, hs⟩ := hs
        rcases hEb _ (z_lkm _ _ _ ha) with ⟨z, -⟩ | ⟨z, -⟩ | ⟨z, z2⟩ | ⟨z, -⟩ | ⟨z, -⟩ | ⟨z, -⟩ | ⟨-, i, -, z, hw⟩ | ⟨z, -⟩
        rotate_left 6
        · simp only at z
          have z : y = i := by omega
          subst z
          obtain ⟨L, f, k', h1, h2, hm, ⟨cA, hr1, hr2⟩, hk, hP, hD⟩ := z_rd hp hh
          exact va_castA hx hb hown (hts _ hw) hP k' (by rw [hk, hr2]) (hr1.2 0 _ rfl).2 hd (hN _ _ _ _ _ hs H locs ls hp hS hl)
        all_goals (simp only at z; omega)
      · exact hs.elim
    · exact hs.elim
  case iushr =>
    have hn : n = 1 := by simpa [z_ok] using hok
    subst hn
    simp only [z_step, z_i2] at hs
    split at hs
    · exact lv_iushr hx hb hd rfl (hN _ _ _ _ _ hs H locs ls hp hS hl)
    · exact hs.elim
  case return_ =>
    have hn : n = 1 := by simpa [z_ok] using hok
    subst hn
    obtain ⟨hk, rfl, hc1, hc2, hs⟩ := hs
    rw [hk] at hrt
    cases hr : meth.sig.returnType with
    | some t => rw [hr] at hrt; simp only [z_rt] at hrt
    | none => exact W.widen hc1 hc2 (W.vret hx hb hr (fun t ht hW => ⟨⟨_, h, rfl, hKR _ _ _ _ hs, by rw [ht]; exact hp.moved hW.alike⟩, hS.F ht⟩) hS.2.2 hd hlocks)
  case ireturn =>
    have hn : n = 1 := by simpa [z_ok] using hok
    subst hn
    simp only [z_step, z_i1] at hs
    split at hs
    · obtain ⟨rfl, hk, hc1, hc2, hs⟩ := hs
      rcases hk with hk | ⟨hk, hv⟩ | ⟨hk, hv⟩ | ⟨hk, hv⟩
      · rw [hk] at hrt
        have hr : meth.sig.returnType = some .int := by
          revert hrt
          cases hr : meth.sig.returnType with
          | none => simp [z_rt]
          | some t => cases t <;> simp [z_rt]
        exact W.widen hc1 hc2 (W.iret hx hb hr (fun t ht hW => ⟨⟨_, h, rfl, hKR _ _ _ _ hs, by rw [ht]; exact hp.moved hW.alike⟩, hS.F ht⟩) hS.2.2 hd hlocks)
      · rw [hk] at hrt
        have hr : meth.sig.returnType = some .boolean := by
          revert hrt
          cases hr : meth.sig.returnType with
          | none => simp [z_rt]
          | some t => cases t <;> simp [z_rt]
        exact W.widen hc1 hc2 (W.zret hx hb hr (by rcases hv with rfl | rfl <;> decide) (fun t ht hW => ⟨⟨_, h, rfl, hKR _ _ _ _ hs, by rw [ht]; exact hp.moved hW.alike⟩, hS.F ht⟩) hS.2.2 hd hlocks)
      · rw [hk] at hrt
        have hr : meth.sig.returnType = some .char := by
          revert hrt
          cases hr : meth.sig.returnType with
          | none => simp [z_rt]
          | some t => cases t <;> simp [z_rt]
        exact W.widen hc1 hc2 (W.zret hx hb hr hv (fun t ht hW => ⟨⟨_, h, rfl, hKR _ _ _ _ hs, by rw [ht]; exact hp.moved hW.alike⟩, hS.F ht⟩) hS.2.2 hd hlocks)
      · rw [hk] at hrt
        have hr : meth.sig.returnType = some .byte := by
          revert hrt
          cases hr : meth.sig.returnType with
          | none => simp [z_rt]
          | some t => cases t <;> simp [z_rt]
        exact W.widen hc1 hc2 (W.zret hx hb hr hv (fun t ht hW => ⟨⟨_, h, rfl, hKR _ _ _ _ hs, by rw [ht]; exact hp.moved hW.alike⟩, hS.F ht⟩) hS.2.2 hd hlocks)
    · exact hs.elim
  case areturn =>
    have hn : n = 1 := by simpa [z_ok] using hok
    subst hn
    have hrr : E.2.2.2.2 = 3 → ∃ t, meth.sig.returnType = some t ∧ ((∃ n, t = .object n) ∨ ∃ t', t = .array t') := by
      intro hk
      rw [hk] at hrt
      cases hr : meth.sig.returnType with
      | none => rw [hr] at hrt; simp only [z_rt] at hrt
      | some t =>
        rw [hr] at hrt
        cases t <;> first | (simp only [z_rt] at hrt; done) | exact ⟨_, rfl, Or.inl ⟨_, rfl⟩⟩ | exact ⟨_, rfl, Or.inr ⟨_, rfl⟩⟩
    simp only [z_step, z_rfs] at hs
    split at hs
    · obtain ⟨rfl, hk, hc1, hc2, hs⟩ := hs
      obtain ⟨t, hr, hrt2⟩ := hrr hk
      exact W.widen hc1 hc2 (W.aret hx hb hr hrt2 (Or.inr ⟨_, rfl⟩) (fun t ht hW => ⟨⟨_, h, rfl, hKR _ _ _ _ hs, by rw [ht]; exact hp.moved hW.alike⟩, hS.F ht⟩) hS.2.2 hd hlocks)
    · obtain ⟨rfl, hk, hc1, hc2, hs⟩ := hs
      obtain ⟨t, hr, hrt2⟩ := hrr hk
      exact W.widen hc1 hc2 (W.aret hx hb hr hrt2 (Or.inl rfl) (fun t ht hW => ⟨⟨_, h, rfl, hKR _ _ _ _ hs, by rw [ht]; exact hp.moved hW.alike⟩, hS.F ht⟩) hS.2.2 hd hlocks)
    · exact hs.elim
  all_goals exact absurd hs (by simp [z_step])
theorem z_wp_ok (hE : z_Env p R s m args meth c D A cc nL fr lc mc ms own ws ini E X) {K : zK} (hKK : ∀ pc lv st h cs sl, K pc lv st h cs sl → z_J p l e R s m args below meth c (MQ below (z_Qc D A Post) args s mc ms A) D A nL pc lv st h cs sl) :
    ∀ (is : List (Instr × Nat)) (pc : Nat) (lv : zL) (st : List Value) (h : zH) (cs sl : Nat), z_cd cc pc is = true → z_wp E X mc ms nL K (fun r h _ _ => Post r h) is pc lv st h cs sl → z_J p l e R s m args below meth c (MQ below (z_Qc D A Post) args s mc ms A) D A nL pc lv st h cs sl
  | [], pc, lv, st, h, cs, sl, _, hw => hKK _ _ _ _ _ _ hw
  | (i, n) :: is, pc, lv, st, h, cs, sl, hc, hw => by
    simp only [z_cd, Bool.and_eq_true, decide_eq_true_eq] at hc
    exact z_step_ok hE hc.1.1 hc.1.2 hw (fun lv st h cs sl hn => z_wp_ok hE hKK is (pc + n) lv st h cs sl hc.2 hn) hKK (fun r h cs sl hr => hr)
end ZS
