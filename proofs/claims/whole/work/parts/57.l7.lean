/-! THE LAW: what its start gives -/
theorem z_eqS {args : Array Value} {s : State} {t u : Term} {a : Nat} (h : (Jvm.Cond.eq t u).before args s = true) (ht : t.eval args s none [] s = some (.ref a)) : u.eval args s none [] s = some (.ref a) := by
  cases hv : u.eval args s none [] s with
  | none => simp [Cond.before, Cond.holds, Cond.value, ht, hv] at h
  | some w =>
    simp only [Cond.before, Cond.holds, Cond.value, ht, hv] at h
    cases w <;> simp_all
theorem z_sameN {s t : State} {L : List Loc} {k n : Nat} (h : s.sameButNew t L k n) (hf : ∀ q ∈ L, s.heap.size ≤ q.base) : s.sameButNew t [] k n := by
  obtain ⟨g1, g2, g3, g4, g5, g6⟩ := h
  refine ⟨g1, g2, g3, g4, g5, fun a c ha => ?_⟩
  obtain ⟨c', d1, d2, d3, d4⟩ := g6 a c ha
  refine ⟨c', d1, d2, d3, fun i _ => d4 i (fun hm => ?_)⟩
  have h1 : s.heap.size ≤ a := hf _ hm
  have h2 := (Array.getElem?_eq_some_iff.mp ha).1
  omega
def z_tm : Term := .string RX2 90
set_option maxRecDepth 100000 in
theorem z_elm : ∀ j, j < 31 → Jvm.Cond.eq (.elem (.field z_tm "java/lang/String" "value" "[B") (.int (Int32.ofNat j))) (.int (z_by.getD j 0)) ∈ flatC (Jvm.Cond.and given_1 narrow_1) := by decide +kernel
set_option maxRecDepth 100000 in
theorem z_cn_of {s : State} {b : Nat} (hts : ∀ w ∈ lw_tbl, w.before #[Value.ref b] s = true) (hgv : (Jvm.Cond.and given_1 narrow_1).before #[Value.ref b] s = true) : ∃ sa sv : Nat, z_cn sa sv (fun q : Nat => s.heap.size ≤ q) s := by
  have hs := flat_of_before _ hgv
  have hA : ∀ a : Nat, a < s.heap.size → ¬ (fun q : Nat => s.heap.size ≤ q) a := fun a h1 h2 => absurd h1 (Nat.not_lt.mpr h2)
  have e1 : (Jvm.Cond.exactly z_tm "java/lang/String").before #[Value.ref b] s = true := hs _ (by decide +kernel)
  have e2 : (Jvm.Cond.eq (.field z_tm "java/lang/String" "coder" "B") (.int 0)).before #[Value.ref b] s = true := hs _ (by decide +kernel)
  have e3 : (Jvm.Cond.arrayOf (.field z_tm "java/lang/String" "value" "[B") .byte).before #[Value.ref b] s = true := hs _ (by decide +kernel)
  have e4 : (Jvm.Cond.eq (.length (.field z_tm "java/lang/String" "value" "[B")) (.int (Int32.ofNat 31))).before #[Value.ref b] s = true := hs _ (by decide +kernel)
  have i0 : ∀ i : Nat, i < 1 → i = 0 := fun i h => by omega
  obtain ⟨adK, adV, hS, hev⟩ := vk_Sof (args := #[Value.ref b]) (s := s) (N := 1) (tm := fun _ => z_tm) (len := [31]) (byt := [z_by]) (A := fun q : Nat => s.heap.size ≤ q) (fun i hi => by rw [i0 i hi]; decide) (fun _ _ => e1) (fun _ _ => e2) (fun _ _ => e3) (fun i hi => by rw [i0 i hi]; exact e4) (fun i hi j hj => by rw [i0 i hi] at hj ⊢; exact hs _ (z_elm j hj)) (fun i j hi hj hn => absurd ((i0 i hi).trans (i0 j hj).symm) hn) hA
  have ev : z_tm.eval #[Value.ref b] s none [] s = some (.ref (adK 0)) := hev 0 (by decide)
  have q5 : (Jvm.Cond.eq z_tm (.string RX5 126)).before #[Value.ref b] s = true := hs _ (by decide +kernel)
  have q7 : (Jvm.Cond.eq z_tm (.string RX7 104)).before #[Value.ref b] s = true := hs _ (by decide +kernel)
  refine ⟨adK 0, adV 0, va_AO.of (hts (.arrayOver (.object RX0)) (by decide +kernel)), ⟨vk_R.of (A := #[Value.ref b]) (hts (.stringRef RX2 90 z_tx) (by decide +kernel)) ev, vk_R.of (A := #[Value.ref b]) (hts (.stringRef RX5 126 z_tx) (by decide +kernel)) (z_eqS q5 ev), vk_R.of (A := #[Value.ref b]) (hts (.stringRef RX7 104 z_tx) (by decide +kernel)) (z_eqS q7 ev)⟩, ⟨fun i hi => by rw [i0 i hi]; exact hS.1 0 (by decide), fun i j hi hj _ => (i0 i hi).trans (i0 j hj).symm⟩, ?_, ?_, va_Nw.of rfl (hts (.castable "[I" "java/lang/Cloneable") (by decide +kernel)), va_Nw.of rfl (hts (.methodLinkNest RX0 22 yX6_isSameText RX6) (by decide +kernel)), va_Nw.of rfl (hts (.methodLinkNest RX4 58 yX6_isSameText RX6) (by decide +kernel))⟩
  · exact va_Zof (hts (.laysStatic "java/lang/String" "COMPACT_STRINGS" "Z") (by decide +kernel)) (hts (.initialized "java/lang/String") (by decide +kernel)) (va_eqi (hs (.eq (.static "java/lang/String" "COMPACT_STRINGS" "Z") (.int 1)) (by decide +kernel))) hA
  · exact va_Zqof (hts (.laysStatic "jdk/internal/util/Preconditions" "SIOOBE_FORMATTER" "Ljava/util/function/BiFunction;") (by decide +kernel)) (hts (.initialized "jdk/internal/util/Preconditions") (by decide +kernel)) (hs (.isRef (.static "jdk/internal/util/Preconditions" "SIOOBE_FORMATTER" "Ljava/util/function/BiFunction;")) (by decide +kernel)) hA
set_option maxRecDepth 100000 in
theorem z_K_of {s : State} {b : Nat} (hw : ∀ w ∈ wsL_law, w.before #[Value.ref b] s = true) : ∃ D : va_G, va_K D vwCl [] s := by
  obtain ⟨c0, i0, k0⟩ := u_known (C := RX0) (T := TX0) (N := 3) (n := 3) hw inlX0 (hw (.instantiable RX0 3) (by decide +kernel))
  obtain ⟨c1, i1, k1⟩ := u_known (C := RX1) (T := TX1) (N := 2) (n := 2) hw inlX1 (hw (.instantiable RX1 2) (by decide +kernel))
  obtain ⟨c2, i2, k2⟩ := u_known (C := RX2) (T := TX2) (N := 2) (n := 2) hw inlX2 (hw (.instantiable RX2 2) (by decide +kernel))
  obtain ⟨c3, i3, k3⟩ := u_known (C := RX3) (T := TX3) (N := 4) (n := 4) hw inlX3 (hw (.instantiable RX3 4) (by decide +kernel))
  obtain ⟨c4, i4, k4⟩ := u_known (C := RX4) (T := TX4) (N := 5) (n := 5) hw inlX4 (hw (.instantiable RX4 5) (by decide +kernel))
  obtain ⟨c5, i5, k5⟩ := u_known (C := RX5) (T := TX5) (N := 6) (n := 6) hw inlX5 (hw (.instantiable RX5 6) (by decide +kernel))
  obtain ⟨c6, i6, k6⟩ := u_known (C := RX6) (T := TX6) (N := 16) (n := 16) hw inlX6 (hw (.instantiable RX6 16) (by decide +kernel))
  obtain ⟨c7, i7, k7⟩ := u_known (C := RX7) (T := TX7) (N := 31) (n := 31) hw inlX7 (hw (.instantiable RX7 31) (by decide +kernel))
  refine ⟨(fun k => [c0, c1, c2, c3, c4, c5, c6, c7].getD k c0, fun k => [i0, i1, i2, i3, i4, i5, i6, i7].getD k i0), fun k q hq => ?_, fun k q h => by simp at h⟩
  match k, hq with
  | 0, hq => cases hq; exact k0
  | 1, hq => cases hq; exact k1
  | 2, hq => cases hq; exact k2
  | 3, hq => cases hq; exact k3
  | 4, hq => cases hq; exact k4
  | 5, hq => cases hq; exact k5
  | 6, hq => cases hq; exact k6
  | 7, hq => cases hq; exact k7
  | k + 8, hq => simp [vwCl] at hq
