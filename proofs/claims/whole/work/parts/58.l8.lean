/-! THE CLAIM OUT OF ONE WALK OF THE LAW'S BODY. Your part is whole_start (and what it stands on); all else here is the same for every law, but numbers. -/
def R_law : String := "FieldPackerLaw"
def lw_P (b : Addr) (xs : List Int32) (args : Array Value) (s : State) : Prop := args = #[.ref b] ∧ s.IntsAt b xs ∧ xs.length ≤ 2560 ∧ (Jvm.Cond.and given_1 narrow_1).before args s = true
def lw_Q (_ : Array Value) (s : State) (o : Outcome) (t : State) : Prop := o = .returned (some (.int 1)) ∧ Framed s o t [] 600000 7302250
def lw_Z (below : List Frame) (a : Array Value) (s : State) : State → Prop := fun t => ∃ o, t.status = .running ∧ Ended t below o ∧ lw_Q a s o t
/-- the law's own end, with 1 on the stack, nothing written that was there before, its room as the claim has it -/
theorem lw_ret {p : Program} {l : Launch} {e : Env} {s : State} {m : MethodId} {below : List Frame} {meth : Method} {c : Code} {b : Nat} (hx : p.tables.exec = Jvm.exec) (hb : c.code = code) (hr : meth.sig.returnType = ret) (hlocks : meth.locks = false) {pc : Nat} {H : Heap} {ls : Array Slot} (hdg : decode code pc = .ok (.ireturn, 1)) : W p l e room_1 s m #[Value.ref b] below meth c H [] 600000 7302250 (lw_Z below #[Value.ref b] s) (F0 m pc ls [.int 1]) := by
  intro T hT X
  obtain ⟨fs, hret, hrun, hended, hW, hframe⟩ := X.leave (v := some (.int 1)) (hlocks := hlocks) (fun h => by rw [hr] at h; cases h)
  have hmeth' : T.vm.method? m = some meth := X.method'
  refine ⟨T.setFrames fs, ?_, .returned (some (.int 1)), hrun, hended, rfl, ⟨_, rfl⟩, hW, hframe⟩
  jvm_step X.here [X.here.top, hx, hb, hdg, hmeth', hr, ret, narrow_b1]
  (try refine ⟨rfl, ?_⟩); (try refine ⟨rfl, ?_⟩)
  first | (intro acts; rw [hret _ acts rfl rfl rfl]) | rw [hret _ _ rfl rfl rfl]
  exact Steps.refl _
/-- what holds at the law's entry: the machine, the code, the tables' words (any of lw_tbl by 'hts w (by decide +kernel)'), the script of L ints xs at the cell b, what the Statement gives of the start (any of its parts by flat_of_before) -/
def lw_At (p : Program) (s : State) (m : MethodId) (meth : Method) (c : Code) (b L : Nat) (xs : Nat → Int32) : Prop :=
  p.tables.exec = Jvm.exec ∧ c.code = code ∧ meth.sig.returnType = ret ∧ c.maxLocals = 4 ∧ s.vm.findClass R_law = some m.cls ∧ (∀ w ∈ lw_tbl, w.before #[Value.ref b] s = true) ∧ va_X b L xs s s.heap ∧ b < s.heap.size ∧ meth.locks = false ∧ (Jvm.Cond.and given_1 narrow_1).before #[Value.ref b] s = true
/-- the law, from its entry -/
theorem whole_start {p : Program} {e : Env} {s : State} {m : MethodId} {below : List Frame} {meth : Method} {c : Code} (l : Launch) {b L : Nat} {xs : Nat → Int32} (hL : L ≤ 2560) (C0 : lw_At p s m meth c b L xs) : W p l e room_1 s m #[Value.ref b] below meth c s.heap [] 0 0 (lw_Z below #[Value.ref b] s) (entryFrame m ([Value.ref b] : List Value).toArray 4) := by
  obtain ⟨hx, hb, hr, hml, hown, hts, hX, hbl, hlocks, hgv⟩ := id C0
  have hA : ∀ q : Nat, s.heap.size ≤ q → (fun q : Nat => s.heap.size ≤ q) q := fun _ h => h
  have hbA : ¬ (fun q : Nat => s.heap.size ≤ q) b := Nat.not_le.mpr hbl
  have hw : ∀ w ∈ wsL_law, w.before #[Value.ref b] s = true := fun w h => hts w (wsL_law_in w h)
  obtain ⟨D, hK⟩ := z_K_of hw
  obtain ⟨sa, sv, hcn⟩ := z_cn_of hts hgv
  have hE : z_Env p room_1 s m #[Value.ref b] meth c D (fun q : Nat => s.heap.size ≤ q) cL_law 4 9 218 600000 7302250 RL wsL_law false eL_law (z_Xs b L xs) := by
    refine ⟨hx, hb, hml, hown, hw, hK, hA, okL_law, lcL_law s hcn, hcn.1, ⟨hcn.2.2.2.2.1, hcn.2.2.2.2.2.1⟩, ⟨rfl, rfl, by decide, by decide⟩, ?_, hlocks, fun z => absurd z (by decide), fun a q hq => ?_⟩
    · rw [hr]
      trivial
    · rw [z_Xs] at hq
      split at hq
      · rename_i ea
        cases hq
        subst ea
        exact Or.inl ⟨rfl, hX, hbl, hbA⟩
      · cases hq
  have hR : z_LR l D (fun q : Nat => s.heap.size ≤ q) sa sv b L xs (fun r _ => r = some (.int 1)) (z_J p l e room_1 s m #[Value.ref b] below meth c (MQ below (z_Qc D (fun q : Nat => s.heap.size ≤ q) (fun r _ => r = some (.int 1))) #[Value.ref b] s 600000 7302250 (fun q : Nat => s.heap.size ≤ q)) D (fun q : Nat => s.heap.size ≤ q) 4) := by
    refine ⟨z_rules hE hcn, ?_, ?_⟩
    · intro pc lv st h cs sl hd kk H locs ls hp hS hl
      exact lv_ldc2 hx hb hown (hw (.constantLong RL 13 4294967295) (by decide +kernel)) hd (kk H locs ls hp hS hl)
    · intro pc lv st h cs sl kk H locs ls hp hS hl
      refine kk ?_ H locs ls hp hS hl
      cases hq : h b with
      | none => rfl
      | some q =>
        obtain ⟨L', f, k, -, -, -, -, hk, -, hD⟩ := z_rd hp (t := q.1) (x := q.2) hq
        exact absurd (hD.2 k _ hk) hbA
  have hp : z_Hp D (fun q : Nat => s.heap.size ≤ q) s (fun _ => none) s.heap := ⟨[], fun _ => .inr (0, []), fun a ha => absurd ha List.not_mem_nil, fun _ _ => rfl, fun k q h => by simp [va_pl] at h, fun i j p q h => by simp [va_pl] at h, fun k q h => by simp [va_pl] at h⟩
  have K := z_law hR hL s.heap [] _ hp va_S.rf (lv_entry [Value.ref b] (n := 4) (Nat.le_of_ble_eq_true rfl))
  rw [lg_entry_eq]
  intro T hT X
  obtain ⟨t, a1, o, h1, h2, ⟨⟨r, h, ho, hpo, -⟩, -⟩, L', ⟨hv, hWm, hsm⟩, hfr⟩ := K T hT X
  exact ⟨t, a1, o, h1, h2, by rw [ho, hpo], hv, hWm, z_sameN hsm hfr⟩
