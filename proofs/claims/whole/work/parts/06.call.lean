/-! CONTRACTS OVER THE COLOURED HEAP -/
def z_Met (l : Launch) (D : va_G) (A : Nat → Prop) (sa sv : Nat) (y : MethodName) (ws : List Jvm.Cond) (fr lc : Nat) (as : List Value) (h : zH) (Post : Option Value → zH → Prop) (mc ms : Nat) : Prop :=
  Met l y ws { frames := fr, cells := mc, slots := ms, locals := lc } (va_Pc as (fun U => z_Hp D A U h U.heap ∧ va_K D vwCl [] U ∧ (∀ q : Nat, U.heap.size ≤ q → A q) ∧ z_cn sa sv A U)) (z_Qc D A Post) mc ms A
theorem z_cn_mv {sa sv : Nat} {A : Nat → Prop} {U T : State} (h : z_cn sa sv A U) (hW : U.WarmedH T.vm) (hk : ∀ q : Nat, q < U.heap.size → ¬ A q → T.heap[q]? = U.heap[q]?) : z_cn sa sv A T := by
  obtain ⟨h1, ⟨h2, h3, h4⟩, h5, h6, h7, h8, h9, h10⟩ := h
  exact ⟨h1.moved hW.alike, ⟨h2.warm hW, h3.warm hW, h4.warm hW⟩, (h5.moved hW.alike).kept hk, (h6.moved hW.alike).kept hk, (h7.moved hW.alike).kept hk, va_Nw.warmC hW h8, va_Nw.warmM hW h9, va_Nw.warmM hW h10⟩
section ZC
variable {p : Program} {l : Launch} {e : Env} {R : Room} {s : State} {m : MethodId} {args : Array Value} {below : List Frame} {meth : Method} {c : Code} {Q : State → Prop} {D : va_G} {A : Nat → Prop} {nL : Nat} {sa sv : Nat}
theorem z_back {H : Heap} {locs : List Loc} {cs sl mc' ms' pc : Nat} {ls : Array Slot} {st0 rest : List Value} {Post' : Option Value → zH → Prop} {a : Array Value} {lv : zL} (hr : va_Run p l e R s m args below meth c H locs cs sl mc' ms' (F0 m pc ls st0) rest (z_Qc D A Post' a) A) (hS : va_S A s.heap H locs) (hl : lv_has ls nL lv)
    (kk : ∀ (r : Option Value) (h' : zH), Post' r h' → z_J p l e R s m args below meth c Q D A nL (pc + 3) lv (r.toList ++ rest) h' (cs + mc') (sl + ms')) : W p l e R s m args below meth c H locs cs sl Q (F0 m pc ls st0) := by
  intro T hT X
  obtain ⟨v, st₀, t, T', L, h0, X', hL, e1, e2, ⟨⟨r, h', hv, hp, hb⟩, hz, hk⟩, st⟩ := hr T hT X
  cases hv
  rw [h0] at hz hk
  have hal : t.vm.Alike s.vm := by rw [← e2]; exact X'.warmed.alike.symm
  obtain ⟨t2, a1, b1⟩ := kk v h' hp T'.heap (locs ++ L) ls (by rw [e1]; exact hb.moved hal)
    ⟨Nat.le_trans hS.1 (by rw [e1]; exact hz), fun q h1 h2 => by rw [e1, hk q (Nat.lt_of_lt_of_le h1 hS.1) h2]; exact hS.2.1 q h1 h2, fun q hq => by
      rcases List.mem_append.mp hq with h | h
      · exact hS.2.2 q h
      · exact hL q h⟩ hl T' rfl X'
  exact ⟨t2, st t2 a1, b1⟩
theorem z_blind {h : zH} {as : List Value} : FrameBlind (va_Pc as (fun U => z_Hp D A U h U.heap ∧ va_K D vwCl [] U ∧ (∀ q : Nat, U.heap.size ≤ q → A q) ∧ z_cn sa sv A U)) := by
  intro a U g mk hq
  obtain ⟨q0, q1, q2, q3, q4⟩ := hq
  refine ⟨q0, q1.moved (u := U.calling g mk a) (Vm.Alike.refl U.vm), va_K.moved (u := U) (U := U.calling g mk a) (Vm.Alike.refl U.vm) q2, q3, ?_⟩
  exact q4
theorem z_pre {h : zH} {H : Heap} {locs : List Loc} {as : List Value} (hp : z_Hp D A s h H) (hK : va_K D vwCl [] s) (hA : ∀ q : Nat, s.heap.size ≤ q → A q) (hcn : z_cn sa sv A s) (hS : va_S A s.heap H locs) (U : State) (hU : U.heap = H) (hW : s.WarmedH U.vm) : va_Pc as (fun U => z_Hp D A U h U.heap ∧ va_K D vwCl [] U ∧ (∀ q : Nat, U.heap.size ≤ q → A q) ∧ z_cn sa sv A U) as.toArray U := by
  refine ⟨rfl, by rw [hU]; exact hp.moved hW.alike, va_K.moved hW.alike hK, fun q hq => hA q (Nat.le_trans hS.1 (by rw [← hU]; exact hq)), z_cn_mv hcn hW (fun q h1 h2 => by rw [hU]; exact hS.2.1 q h1 h2)⟩
end ZC
/-- the text's bytes, which nobody writes -/
def z_X (sv : Nat) : Nat → Option (Nat × Nat × (Nat → Int32)) := fun a => if a = sv then some (0, 31, fun j => z_by.getD j 0) else none
theorem z_X_ok {sa sv : Nat} {A : Nat → Prop} {U : State} (h : z_cn sa sv A U) {a : Nat} {q : Nat × Nat × (Nat → Int32)} (hq : z_X sv a = some q) : q.1 = 0 ∧ va_T .byte a q.2.1 (fun j => .int (q.2.2 j)) A U U.heap := by
  rw [z_X] at hq
  split at hq
  · rename_i e
    cases hq
    subst e
    exact ⟨rfl, (h.2.2.1.1 0 (by decide)).2.2.2⟩
  · cases hq
/-- the rules of a method's own walk, over any G -/
def z_Rl (l : Launch) (D : va_G) (A : Nat → Prop) (sa sv : Nat) (cc : ByteArray) (nL fr lc mc ms : Nat) (own : String) (ws : List Jvm.Cond) (E : zE) (X : Nat → Option (Nat × Nat × (Nat → Int32))) (Post : Option Value → zH → Prop) (G : zK) : Prop :=
  (∀ (is : List (Instr × Nat)) (pc : Nat) (lv : zL) (st : List Value) (h : zH) (cs sl : Nat), z_cd cc pc is = true → z_wp E X mc ms nL G (fun r h _ _ => Post r h) is pc lv st h cs sl → G pc lv st h cs sl)
  ∧ (∀ (pc idx : Nat) (y : MethodName) (ws1 ws2 : List Jvm.Cond) (bytes : ByteArray) (maxL : Nat) (rt : Option FieldType) (C : String) (ci : Nat) (n fr' lc' : Nat), decode cc pc = .ok (.invokevirtual idx, 3) → GoodIn ws (wsV own idx C y ws1) → ws1 = Jvm.Cond.code y bytes maxL rt :: ws2 → (y.cls = C ∧ y.cls ≠ "java/lang/invoke/MethodHandle" ∧ y.cls ≠ "java/lang/invoke/VarHandle" ∧ (parseMethodDescriptor y.desc).map (fun d => d.parameters.length) = some n) → (fr' + 1 ≤ fr ∧ 8 + (maxL + 11) + lc' ≤ lc) → ci < 8 → z_R ci = C →
      ∀ (lv : zL) (st : List Value) (h : zH) (cs sl b t : Nat) (fs As : List Value) (Post' : Option Value → zH → Prop) (mc' ms' : Nat), h b = some (t, .inr (ci, fs)) → As.length = n → z_Met l D A sa sv y ws1 fr' lc' (.ref b :: As) h Post' mc' ms' → cs + mc' ≤ mc → sl + ms' ≤ ms → (st.map fun v => v.category).sum ≤ 8 → (∀ (r : Option Value) (h' : zH), Post' r h' → G (pc + 3) lv (r.toList ++ st) h' (cs + mc') (sl + ms')) → G pc lv (As.reverse ++ .ref b :: st) h cs sl)
  ∧ (∀ (pc idx : Nat) (y : MethodName) (ws1 ws2 : List Jvm.Cond) (bytes : ByteArray) (maxL : Nat) (rt : Option FieldType) (n fr' lc' : Nat), decode cc pc = .ok (.invokestatic idx, 3) → GoodIn ws (va_wsS own idx y ws1) → ws1 = Jvm.Cond.code y bytes maxL rt :: ws2 → (y.cls ≠ "java/lang/invoke/MethodHandle" ∧ y.cls ≠ "java/lang/invoke/VarHandle" ∧ (parseMethodDescriptor y.desc).map (fun d => d.parameters.length) = some n) → (fr' + 1 ≤ fr ∧ 8 + (maxL + 11) + lc' ≤ lc) →
      ∀ (lv : zL) (st : List Value) (h : zH) (cs sl : Nat) (As : List Value) (Post' : Option Value → zH → Prop) (mc' ms' : Nat), As.length = n → z_Met l D A sa sv y ws1 fr' lc' As h Post' mc' ms' → cs + mc' ≤ mc → sl + ms' ≤ ms → (st.map fun v => v.category).sum ≤ 8 → (∀ (r : Option Value) (h' : zH), Post' r h' → G (pc + 3) lv (r.toList ++ st) h' (cs + mc') (sl + ms')) → G pc lv (As.reverse ++ st) h cs sl)
  ∧ (∀ (pc idx : Nat) (y : MethodName) (ws1 ws2 : List Jvm.Cond) (bytes : ByteArray) (maxL : Nat) (n fr' lc' : Nat), decode cc pc = .ok (.invokespecial idx, 3) → GoodIn ws ws1 → ws1 = Jvm.Cond.code y bytes maxL none :: ws2 → Jvm.Cond.initialized y.cls ∈ ws → Jvm.Cond.methodLink own idx y ∈ ws → Jvm.Cond.instanceMethod y ∈ ws → y.name = "<init>" → (y.cls ≠ "java/lang/invoke/MethodHandle" ∧ y.cls ≠ "java/lang/invoke/VarHandle" ∧ (parseMethodDescriptor y.desc).map (fun d => d.parameters.length) = some n) → (fr' + 1 ≤ fr ∧ 8 + (maxL + 11) + lc' ≤ lc) →
      ∀ (lv : zL) (st : List Value) (h : zH) (cs sl b : Nat) (As : List Value) (Post' : Option Value → zH → Prop) (mc' ms' : Nat), As.length = n → z_Met l D A sa sv y ws1 fr' lc' (.ref b :: As) h Post' mc' ms' → cs + mc' ≤ mc → sl + ms' ≤ ms → (st.map fun v => v.category).sum ≤ 8 → (∀ (r : Option Value) (h' : zH), Post' r h' → G (pc + 3) lv (r.toList ++ st) h' (cs + mc') (sl + ms')) → G pc lv (As.reverse ++ .ref b :: st) h cs sl)
  ∧ (∀ (pc idx : Nat) (y : MethodName) (host : String) (ws1 ws2 : List Jvm.Cond) (bytes : ByteArray) (maxL : Nat) (rt : Option FieldType) (n fr' lc' : Nat), decode cc pc = .ok (.invokestatic idx, 3) → GoodIn ws ws1 → ws1 = Jvm.Cond.code y bytes maxL rt :: ws2 → Jvm.Cond.initialized y.cls ∈ ws → Jvm.Cond.static y ∈ ws → (∀ U : State, z_cn sa sv A U → va_Nw (.methodLinkNest own idx y host) U) → (y.cls ≠ "java/lang/invoke/MethodHandle" ∧ y.cls ≠ "java/lang/invoke/VarHandle" ∧ (parseMethodDescriptor y.desc).map (fun d => d.parameters.length) = some n) → (fr' + 1 ≤ fr ∧ 8 + (maxL + 11) + lc' ≤ lc) →
      ∀ (lv : zL) (st : List Value) (h : zH) (cs sl : Nat) (As : List Value) (Post' : Option Value → zH → Prop) (mc' ms' : Nat), As.length = n → z_Met l D A sa sv y ws1 fr' lc' As h Post' mc' ms' → cs + mc' ≤ mc → sl + ms' ≤ ms → (st.map fun v => v.category).sum ≤ 8 → (∀ (r : Option Value) (h' : zH), Post' r h' → G (pc + 3) lv (r.toList ++ st) h' (cs + mc') (sl + ms')) → G pc lv (As.reverse ++ st) h cs sl)
  ∧ (∀ (pc idx : Nat) (y : MethodName) (ws1 ws2 : List Jvm.Cond) (bytes : ByteArray) (maxL : Nat) (rt : Option FieldType) (n fr' lc' : Nat), decode cc pc = .ok (.invokevirtual idx, 3) → GoodIn ws (wsV own idx "java/lang/String" y ws1) → ws1 = Jvm.Cond.code y bytes maxL rt :: ws2 → (y.cls = "java/lang/String" ∧ y.cls ≠ "java/lang/invoke/MethodHandle" ∧ y.cls ≠ "java/lang/invoke/VarHandle" ∧ (parseMethodDescriptor y.desc).map (fun d => d.parameters.length) = some n) → (fr' + 1 ≤ fr ∧ 8 + (maxL + 11) + lc' ≤ lc) →
      ∀ (lv : zL) (st : List Value) (h : zH) (cs sl : Nat) (As : List Value) (Post' : Option Value → zH → Prop) (mc' ms' : Nat), As.length = n → z_Met l D A sa sv y ws1 fr' lc' (.ref sa :: As) h Post' mc' ms' → cs + mc' ≤ mc → sl + ms' ≤ ms → (st.map fun v => v.category).sum ≤ 8 → (∀ (r : Option Value) (h' : zH), Post' r h' → G (pc + 3) lv (r.toList ++ st) h' (cs + mc') (sl + ms')) → G pc lv (As.reverse ++ .ref sa :: st) h cs sl)
  ∧ (∀ (pc : Nat) (lv : zL) (st : List Value) (h h' : zH) (cs sl : Nat), (∀ a : Nat, (h' a).map (fun q => q.2) = (h a).map (fun q => q.2)) → G pc lv st h' cs sl → G pc lv st h cs sl)
  ∧ (∀ (pc : Nat) (lv lv' : zL) (st : List Value) (h : zH) (cs sl cs' sl' : Nat), (∀ q ∈ lv', q ∈ lv) → cs ≤ cs' → sl ≤ sl' → G pc lv' st h cs' sl' → G pc lv st h cs sl)
set_option maxHeartbeats 2000000 in
theorem z_rules {p : Program} {l : Launch} {e : Env} {R : Room} {s : State} {m : MethodId} {args : Array Value} {below : List Frame} {meth : Method} {c : Code} {D : va_G} {A : Nat → Prop} {sa sv nL fr lc mc ms : Nat} {cc : ByteArray} {own : String} {ws : List Jvm.Cond} {ini : Bool} {E : zE} {X : Nat → Option (Nat × Nat × (Nat → Int32))} {Post : Option Value → zH → Prop}
    (hE : z_Env p R s m args meth c D A cc nL fr lc mc ms own ws ini E X) (hcn : z_cn sa sv A s) : z_Rl l D A sa sv cc nL fr lc mc ms own ws E X Post (z_J p l e R s m args below meth c (MQ below (z_Qc D A Post) args s mc ms A) D A nL) := by
  have hE0 := hE
  obtain ⟨hx, hb, hml, hown, hts, hK, hA, -, -, -, -, ⟨hRc, hRs, hRf, hRl⟩, -⟩ := hE
  refine ⟨fun is pc lv st h cs sl hc hw => z_wp_ok hE0 (fun _ _ _ _ _ _ z => z) is pc lv st h cs sl hc hw, ?_, ?_, ?_, ?_, ?_, ?_, ?_⟩
  · intro pc idx y ws1 ws2 bytes maxL rt C ci n fr' lc' hd hG hw hy hR hc8 hC lv st h cs sl b t fs As Post' mc' ms' hb0 hn hM h1 h2 h3 kk H locs ls hp hS hl
    obtain ⟨L, f, k', -, -, hm, hr, hk, hP, hD⟩ := z_rd hp hb0
    have hr : f b = .inr (ci, fs) := hr
    have hrec : ∃ cellB : Cell, H[b]? = some cellB ∧ cellB.vm.isStatics = false ∧ s.vm.findClass C = some cellB.cls := by
      rw [← hC]
      exact va_recv hK hP (ci := ci) (q0 := k') (z_cl hc8) (by rw [hk, hr])
    exact z_back (va_runV (As := As) (rest := st) ⟨hx, hb, hml, hown, hts⟩ hM (cwV n hts hG hw rfl rfl hy ⟨Nat.le_trans hR.1 hRf, Nat.le_trans hR.2 hRl⟩) ⟨z_blind, hrec, z_pre hp hK hA hcn hS⟩ rfl hn hl.1 rfl (lv_room h3) hd ⟨by rw [hRc]; exact h1, by rw [hRs]; exact h2⟩) hS hl kk
  · intro pc idx y ws1 ws2 bytes maxL rt n fr' lc' hd hG hw hy hR lv st h cs sl As Post' mc' ms' hn hM h1 h2 h3 kk H locs ls hp hS hl
    exact z_back (va_runS (As := As) (rest := st) ⟨hx, hb, hml, hown, hts⟩ hM (va_cwS n hts hG hw rfl rfl hy ⟨Nat.le_trans hR.1 hRf, Nat.le_trans hR.2 hRl⟩) ⟨z_blind, z_pre hp hK hA hcn hS⟩ rfl hn hl.1 rfl (lv_room h3) hd ⟨by rw [hRc]; exact h1, by rw [hRs]; exact h2⟩) hS hl kk
  · intro pc idx y ws1 ws2 bytes maxL n fr' lc' hd hG hw wi wl wm hnm hy hR lv st h cs sl b As Post' mc' ms' hn hM h1 h2 h3 kk H locs ls hp hS hl
    exact z_back (va_runI (As := As) (rest := st) ⟨hx, hb, hml, hown, hts⟩ hM (cwI n hts hG hw rfl rfl (hts _ wi) (hts _ wl) (hts _ wm) hnm hy ⟨Nat.le_trans hR.1 hRf, Nat.le_trans hR.2 hRl⟩) ⟨z_blind, z_pre hp hK hA hcn hS⟩ rfl hn hl.1 rfl (lv_room h3) hd ⟨by rw [hRc]; exact h1, by rw [hRs]; exact h2⟩) hS hl kk
  · intro pc idx y host ws1 ws2 bytes maxL rt n fr' lc' hd hG hw wi wst hnest hy hR lv st h cs sl As Post' mc' ms' hn hM h1 h2 h3 kk H locs ls hp hS hl
    exact z_back (va_runSN (As := As) (rest := st) ⟨hx, hb, hml, hown, hts⟩ hM ⟨va_cnB n hts hG hw rfl rfl (hnest s hcn) (hts _ wi) hy ⟨Nat.le_trans hR.1 hRf, Nat.le_trans hR.2 hRl⟩, hts _ wst, trivial⟩ ⟨z_blind, z_pre hp hK hA hcn hS⟩ rfl hn hl.1 rfl (lv_room h3) hd ⟨by rw [hRc]; exact h1, by rw [hRs]; exact h2⟩) hS hl kk
  · intro pc idx y ws1 ws2 bytes maxL rt n fr' lc' hd hG hw hy hR lv st h cs sl As Post' mc' ms' hn hM h1 h2 h3 kk H locs ls hp hS hl
    exact z_back (va_runV (As := As) (rest := st) ⟨hx, hb, hml, hown, hts⟩ hM (cwV n hts hG hw rfl rfl hy ⟨Nat.le_trans hR.1 hRf, Nat.le_trans hR.2 hRl⟩) ⟨z_blind, vk_recv hcn.2.2.1 (i := 0) (by decide) hS, z_pre hp hK hA hcn hS⟩ rfl hn hl.1 rfl (lv_room h3) hd ⟨by rw [hRc]; exact h1, by rw [hRs]; exact h2⟩) hS hl kk
  · intro pc lv st h h' cs sl he kk H locs ls hp hS hl
    exact kk H locs ls (hp.paint he) hS hl
  · intro pc lv lv' st h cs sl cs' sl' hlv h1 h2 kk H locs ls hp hS hl
    exact W.widen h1 h2 (kk H locs ls hp hS ⟨hl.1, hl.2.1, fun q hq => hl.2.2 q (hlv q hq)⟩)
set_option maxHeartbeats 2000000 in
theorem z_meth {l : Launch} {D : va_G} {A : Nat → Prop} {sa sv nL fr lc mc ms : Nat} {cc : ByteArray} {y : MethodName} {ws ws' : List Jvm.Cond} {rt : Option FieldType} {ini : Bool} {E : zE} {as : List Value} {h : zH} {Post : Option Value → zH → Prop}
    (hy : plainName y.cls = true) (hw : ws = Jvm.Cond.code y cc nL rt :: ws') (hE : z_EOK ws y.cls fr lc ini E) (hlc : ∀ U : State, z_cn sa sv A U → z_lcOK y.cls ws A U E.2.1) (hrt : z_rt E.2.2.2.2 rt) (hini : ini = true → y.name = "<init>") (hnl : (lg_sl as).length ≤ nL)
    (body : ∀ G : zK, z_Rl l D A sa sv cc nL fr lc mc ms y.cls ws E (z_X sv) Post G → h sv = none → G 0 (lv_args 0 as) [] h 0 0) : z_Met l D A sa sv y ws fr lc as h Post mc ms := by
  refine Met.ofW hy hw ?_
  intro p e s m args below meth c s₁ B hml hv
  obtain ⟨rfl, hp, hK, hA, hcn⟩ := hv
  have hts := atoms_spec (ws := ws) B.pre
  have hown : s.vm.findClass y.cls = some m.cls := findClass_of_methodNamed B.named
  have hnm : meth.name = y.name := (name_of_methodNamed B.named B.method).1
  have hE0 : z_Env p (headSpec ws { frames := fr, cells := mc, slots := ms, locals := lc }).room s m as.toArray meth c D A cc nL fr lc mc ms y.cls ws ini E (z_X sv) :=
    ⟨B.exec, B.bytes, hml, hown, hts, hK, hA, hE, hlc s hcn, hcn.1, ⟨hcn.2.2.2.2.1, hcn.2.2.2.2.2.1⟩, ⟨rfl, rfl, Nat.le_refl _, Nat.le_refl _⟩, by rw [B.returns]; exact hrt, B.notSynchronized, fun z => hnm.trans (hini z), fun a q z => Or.inr (z_X_ok hcn z)⟩
  rw [lg_entry_eq]
  have hsv : h sv = none := by
    cases hq : h sv with
    | none => rfl
    | some q =>
      obtain ⟨L, f, k, -, -, -, -, hk, -, hD⟩ := z_rd hp (t := q.1) (x := q.2) hq
      exact absurd (hD.2 k _ hk) (hcn.2.2.1.1 0 (by decide)).2.2.2.out
  exact body _ (z_rules hE0 hcn) hsv s.heap [] _ hp va_S.rf (lv_entry as hnl)
def z_in (ws : List Jvm.Cond) (w : Jvm.Cond) : Bool := ws.any (fun v => decide (v = w))
theorem z_in_ok {ws : List Jvm.Cond} {w : Jvm.Cond} (h : z_in ws w = true) : w ∈ ws := by
  obtain ⟨v, hv, e⟩ := List.any_eq_true.mp h
  have := of_decide_eq_true e
  exact this ▸ hv
def z_ef (ws : List Jvm.Cond) (own : String) (ini : Bool) (q : Nat × Nat × Nat × Nat) : Bool :=
  decide (q.2.1 < 8) && (decide (q.2.2.1 < z_N q.2.1) && (((decide ((z_T q.2.1 q.2.2.1).2.2.2 = false) && decide (q.2.2.2 = z_kd (z_F q.2.1 q.2.2.1))) || (decide ((z_T q.2.1 q.2.2.1).2.2.2 = true) && (decide (q.2.2.2 = 7) || (ini && (decide ((z_T q.2.1 q.2.2.1).1 = own) && decide (q.2.2.2 = z_kd (z_F q.2.1 q.2.2.1))))))) && ((u_ws (z_R q.2.1) (z_T q.2.1) (z_N q.2.1)).all (fun w => z_in ws w) && z_in ws (Jvm.Cond.fieldLink own q.1 (z_T q.2.1 q.2.2.1).1 (z_T q.2.1 q.2.2.1).2.1 (z_T q.2.1 q.2.2.1).2.2.1))))
def z_en (ws : List Jvm.Cond) (own : String) (q : Nat × Nat) : Bool :=
  (decide (q.2 < 8) && ((u_ws (z_R q.2) (z_T q.2) (z_N q.2)).all (fun w => z_in ws w) && (z_in ws (Jvm.Cond.classLink own q.1 (z_R q.2)) && (z_in ws (Jvm.Cond.instantiable (z_R q.2) (z_N q.2)) && z_in ws (Jvm.Cond.initialized (z_R q.2)))))) || (decide (q.2 = 100) && z_in ws (Jvm.Cond.classLink own q.1 RX0))
def z_eb0 (ws : List Jvm.Cond) (own : String) (fr lc : Nat) (q : Nat × Nat) : Bool :=
  decide (q.2 = 0) && (decide (1 ≤ fr) && (decide (12 ≤ lc) && (z_in ws (Jvm.Cond.methodLink own q.1 Lib.objectInit) && (z_in ws (Jvm.Cond.instanceMethod Lib.objectInit) && z_in ws (Jvm.Cond.code Lib.objectInit ⟨#[0xb1]⟩ 1 none)))))
def z_eb1 (ws : List Jvm.Cond) (own : String) (fr lc : Nat) (q : Nat × Nat) : Bool :=
  decide (q.2 = 1) && (decide (1 ≤ fr) && (decide (21 ≤ lc) && (z_in ws (Jvm.Cond.methodLink own q.1 Lib.Math.min.name) && (z_in ws (Jvm.Cond.static Lib.Math.min.name) && (z_in ws (Jvm.Cond.initialized "java/lang/Math") && z_in ws (Jvm.Cond.code Lib.Math.min.name Lib.Math.min.code 2 (some .int)))))))
def z_eb2 (ws : List Jvm.Cond) (q : Nat × Nat) : Bool :=
  decide (q.2 = 2) && ((decide (q.1 = 100000) && z_in ws (Jvm.Cond.arrayClass .byte)) || ((decide (q.1 = 100001) && z_in ws (Jvm.Cond.arrayClass .int)) || (decide (q.1 = 100002) && z_in ws (Jvm.Cond.arrayClass .boolean))))
def z_eb4 (ws : List Jvm.Cond) (own : String) (q : Nat × Nat) : Bool :=
  decide (q.2 = 4) && (decide (q.1 - 200000 < 2000) && (decide (q.1 = 200000 + (q.1 - 200000)) && z_in ws (Jvm.Cond.fieldLink own (q.1 - 200000) "jdk/internal/util/Preconditions" "SIOOBE_FORMATTER" "Ljava/util/function/BiFunction;")))
def z_eb7 (ws : List Jvm.Cond) (own : String) (fr lc : Nat) (q : Nat × Nat) : Bool :=
  decide (q.2 = 7) && (decide (1 ≤ fr) && (decide (60 ≤ lc) && (z_in ws (Jvm.Cond.methodLink own q.1 arraycopyName) && (z_in ws (Jvm.Cond.native arraycopyName) && (z_in ws (Jvm.Cond.static arraycopyName) && z_in ws (Jvm.Cond.initialized "java/lang/System"))))))
def z_eb8 (ws : List Jvm.Cond) (own : String) (fr lc : Nat) (q : Nat × Nat) : Bool :=
  decide (q.2 = 8) && (decide (1 ≤ fr) && (decide (14 ≤ lc) && (z_in ws (Jvm.Cond.methodLink own q.1 ⟨"[I", "clone", "()Ljava/lang/Object;"⟩) && (z_in ws (Jvm.Cond.sameMethod "[I" "java/lang/Object" "clone" "()Ljava/lang/Object;") && (z_in ws (Jvm.Cond.native ⟨"java/lang/Object", "clone", "()Ljava/lang/Object;"⟩) && (z_in ws (Jvm.Cond.instanceMethod ⟨"java/lang/Object", "clone", "()Ljava/lang/Object;"⟩) && z_in ws (Jvm.Cond.selects "[I" ⟨"[I", "clone", "()Ljava/lang/Object;"⟩ ⟨"java/lang/Object", "clone", "()Ljava/lang/Object;"⟩)))))))
def z_eb9 (ws : List Jvm.Cond) (own : String) (q : Nat × Nat) : Bool :=
  decide (q.2 = 9) && (decide (q.1 - 300000 < 2000) && (decide (q.1 = 300000 + (q.1 - 300000)) && z_in ws (Jvm.Cond.classLink own (q.1 - 300000) "[I")))
def z_eb10 (ws : List Jvm.Cond) (own : String) (fr lc : Nat) (q : Nat × Nat) : Bool :=
  decide (q.2 = 10) && (decide (1 ≤ fr) && (decide (21 ≤ lc) && (z_in ws (Jvm.Cond.methodLink own q.1 Lib.Math.max.name) && (z_in ws (Jvm.Cond.static Lib.Math.max.name) && (z_in ws (Jvm.Cond.initialized "java/lang/Math") && z_in ws (Jvm.Cond.code Lib.Math.max.name Lib.Math.max.code 2 (some .int)))))))
def z_eb (ws : List Jvm.Cond) (own : String) (fr lc : Nat) (q : Nat × Nat) : Bool := z_eb0 ws own fr lc q || (z_eb1 ws own fr lc q || (z_eb2 ws q || (z_eb4 ws own q || (z_eb7 ws own fr lc q || (z_eb8 ws own fr lc q || (z_eb9 ws own q || z_eb10 ws own fr lc q))))))
def z_eok (ws : List Jvm.Cond) (own : String) (fr lc : Nat) (ini : Bool) (E : zE) : Bool := E.1.all (z_ef ws own ini) && (E.2.2.1.all (z_en ws own) && E.2.2.2.1.all (z_eb ws own fr lc))
theorem z_EOK.of {ws : List Jvm.Cond} {own : String} {fr lc : Nat} {ini : Bool} {E : zE} (h : z_eok ws own fr lc ini E = true) : z_EOK ws own fr lc ini E := by
  simp only [z_eok, Bool.and_eq_true, List.all_eq_true] at h
  obtain ⟨h1, h2, h3⟩ := h
  refine ⟨fun q hq => ?_, fun q hq => ?_, fun q hq => ?_⟩
  · have := h1 q hq
    simp only [z_ef, Bool.and_eq_true, Bool.or_eq_true, decide_eq_true_eq, List.all_eq_true] at this
    obtain ⟨a1, a2, a3, a4, a5⟩ := this
    exact ⟨a1, a2, a3, fun w hw => z_in_ok (a4 w hw), z_in_ok a5⟩
  · have := h2 q hq
    simp only [z_en, Bool.and_eq_true, Bool.or_eq_true, decide_eq_true_eq, List.all_eq_true] at this
    rcases this with ⟨a1, a2, a3, a4, a5⟩ | ⟨a1, a2⟩
    · exact Or.inl ⟨a1, fun w hw => z_in_ok (a2 w hw), z_in_ok a3, z_in_ok a4, z_in_ok a5⟩
    · exact Or.inr ⟨a1, z_in_ok a2, trivial⟩
  · have := h3 q hq
    simp only [z_eb, z_eb0, z_eb1, z_eb2, z_eb4, z_eb7, z_eb8, z_eb9, z_eb10, Bool.and_eq_true, Bool.or_eq_true, decide_eq_true_eq] at this
    rcases this with ⟨a1, a2, a3, a4, a5, a6⟩ | ⟨a1, a2, a3, a4, a5, a6, a7⟩ | ⟨a1, a2⟩ | ⟨a1, a2, a3, a4⟩ | ⟨a1, a2, a3, a4, a5, a6, a7⟩ | ⟨a1, a2, a3, a4, a5, a6, a7, a8⟩ | ⟨a1, a2, a3, a4⟩ | ⟨a1, a2, a3, a4, a5, a6, a7⟩
    · exact Or.inl ⟨a1, a2, a3, z_in_ok a4, z_in_ok a5, z_in_ok a6⟩
    · exact Or.inr (Or.inl ⟨a1, a2, a3, z_in_ok a4, z_in_ok a5, z_in_ok a6, z_in_ok a7⟩)
    · refine Or.inr (Or.inr (Or.inl ⟨a1, ?_⟩))
      rcases a2 with ⟨b1, b2⟩ | ⟨b1, b2⟩ | ⟨b1, b2⟩
      · exact Or.inl ⟨b1, z_in_ok b2⟩
      · exact Or.inr (Or.inl ⟨b1, z_in_ok b2⟩)
      · exact Or.inr (Or.inr ⟨b1, z_in_ok b2⟩)
    · exact Or.inr (Or.inr (Or.inr (Or.inl ⟨a1, _, List.mem_range.mpr a2, a3, z_in_ok a4⟩)))
    · exact Or.inr (Or.inr (Or.inr (Or.inr (Or.inl ⟨a1, a2, a3, z_in_ok a4, z_in_ok a5, z_in_ok a6, z_in_ok a7⟩))))
    · exact Or.inr (Or.inr (Or.inr (Or.inr (Or.inr (Or.inl ⟨a1, a2, a3, z_in_ok a4, z_in_ok a5, z_in_ok a6, z_in_ok a7, z_in_ok a8⟩)))))
    · exact Or.inr (Or.inr (Or.inr (Or.inr (Or.inr (Or.inr (Or.inl ⟨a1, _, List.mem_range.mpr a2, a3, z_in_ok a4⟩))))))
    · exact Or.inr (Or.inr (Or.inr (Or.inr (Or.inr (Or.inr (Or.inr ⟨a1, a2, a3, z_in_ok a4, z_in_ok a5, z_in_ok a6, z_in_ok a7⟩))))))
