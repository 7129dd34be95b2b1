theorem zX_s {sv : Nat} : z_X sv sv = some (0, 31, fun j => z_by.getD j 0) := by simp [z_X]
theorem zc_10 : ((1 : Int32) = 0) = False := by decide
theorem zc_im13 : Int32.ofInt (-13) = -13 := by decide +kernel
theorem zc_im8 : Int32.ofInt (-8) = -8 := by decide +kernel
theorem zc_im5 : Int32.ofInt (-5) = -5 := by decide +kernel
theorem zc_im1 : Int32.ofInt (-1) = -1 := by decide +kernel
theorem zc_i0 : Int32.ofInt 0 = nI 0 := by decide +kernel
theorem zc_i1 : Int32.ofInt 1 = nI 1 := by decide +kernel
theorem zc_i2 : Int32.ofInt 2 = nI 2 := by decide +kernel
theorem zc_i3 : Int32.ofInt 3 = nI 3 := by decide +kernel
theorem zc_i4 : Int32.ofInt 4 = nI 4 := by decide +kernel
theorem zc_i5 : Int32.ofInt 5 = nI 5 := by decide +kernel
theorem zc_i13 : Int32.ofInt 13 = nI 13 := by decide +kernel
theorem zc_bm2 : (Int8.ofInt (-2)).toInt32 = -2 := by decide +kernel
theorem zc_b6 : (Int8.ofInt 6).toInt32 = nI 6 := by decide +kernel
theorem zc_b7 : (Int8.ofInt 7).toInt32 = nI 7 := by decide +kernel
theorem zc_b8 : (Int8.ofInt 8).toInt32 = nI 8 := by decide +kernel
theorem zc_b10 : (Int8.ofInt 10).toInt32 = nI 10 := by decide +kernel
theorem zc_b12 : (Int8.ofInt 12).toInt32 = nI 12 := by decide +kernel
theorem zc_b13 : (Int8.ofInt 13).toInt32 = nI 13 := by decide +kernel
theorem zc_b16 : (Int8.ofInt 16).toInt32 = nI 16 := by decide +kernel
theorem zc_b17 : (Int8.ofInt 17).toInt32 = nI 17 := by decide +kernel
theorem zc_b20 : (Int8.ofInt 20).toInt32 = nI 20 := by decide +kernel
theorem zc_b31 : (Int8.ofInt 31).toInt32 = nI 31 := by decide +kernel
theorem zc_b32 : (Int8.ofInt 32).toInt32 = nI 32 := by decide +kernel
theorem zc_b60 : (Int8.ofInt 60).toInt32 = nI 60 := by decide +kernel
theorem zc_b63 : (Int8.ofInt 63).toInt32 = nI 63 := by decide +kernel
theorem zc_b64 : (Int8.ofInt 64).toInt32 = nI 64 := by decide +kernel
theorem zc_b80 : (Int8.ofInt 80).toInt32 = nI 80 := by decide +kernel
theorem zc_b127 : (Int8.ofInt 127).toInt32 = nI 127 := by decide +kernel
theorem zc_s128 : (Int16.ofInt 128).toInt32 = nI 128 := by decide +kernel
theorem zc_s140 : (Int16.ofInt 140).toInt32 = nI 140 := by decide +kernel
theorem zc_s200 : (Int16.ofInt 200).toInt32 = nI 200 := by decide +kernel
theorem zc_s255 : (Int16.ofInt 255).toInt32 = nI 255 := by decide +kernel
theorem zc_s256 : (Int16.ofInt 256).toInt32 = nI 256 := by decide +kernel
theorem zc_s400 : (Int16.ofInt 400).toInt32 = nI 400 := by decide +kernel
theorem zc_s1023 : (Int16.ofInt 1023).toInt32 = nI 1023 := by decide +kernel
theorem zc_s1304 : (Int16.ofInt 1304).toInt32 = nI 1304 := by decide +kernel
theorem zc_s4096 : (Int16.ofInt 4096).toInt32 = nI 4096 := by decide +kernel
theorem zc_s6000 : (Int16.ofInt 6000).toInt32 = nI 6000 := by decide +kernel
theorem zc_s7936 : (Int16.ofInt 7936).toInt32 = nI 7936 := by decide +kernel
/-! WHAT THE CELLS OF THE CLASS ARE: texts and fields (colour 0, never changed), rows, lists of fields, tables -/
abbrev zF : Type := List Nat × List Nat × Bool
def z_bo (b : Bool) : Int32 := nI (if b then 1 else 0)
/-- nothing has changed but in the colours C -/
def z_fr (C : List Nat) (h h' : zH) : Prop := ∀ (a t : Nat) (x : zC), h a = some (t, x) → t ∉ C → h' a = some (t, x)
theorem z_fr.rf {C : List Nat} {h : zH} : z_fr C h h := fun _ _ _ z _ => z
theorem z_fr.tr {C : List Nat} {h h' h'' : zH} (p : z_fr C h h') (q : z_fr C h' h'') : z_fr C h h'' := fun a t x z n => q a t x (p a t x z n) n
theorem z_fr.mo {C C' : List Nat} {h h' : zH} (p : z_fr C h h') (s : ∀ t ∈ C, t ∈ C') : z_fr C' h h' := fun a t x z n => p a t x z (fun m => n (s t m))
theorem z_fr.up {C : List Nat} {h h' : zH} (p : z_fr C h h') {a t t' : Nat} {x x' : zC} (ha : h' a = some (t, x)) (ht : t ∈ C) : z_fr C h (va_up h' a (some (t', x'))) := by
  intro b u y hb hn
  have h1 := p b u y hb hn
  by_cases q : b = a
  · subst q
    rw [ha] at h1
    cases h1
    exact absurd ht hn
  · simpa [va_up, q] using h1
theorem z_fr.nw {C : List Nat} {h h' : zH} (p : z_fr C h h') {a t' : Nat} {x' : zC} (ha : h' a = none) : z_fr C h (va_up h' a (some (t', x'))) := by
  intro b u y hb hn
  have h1 := p b u y hb hn
  by_cases q : b = a
  · subst q
    rw [ha] at h1
    cases h1
  · simpa [va_up, q] using h1
theorem z_us {h : zH} {a : Nat} {x : Option (Nat × zC)} : va_up h a x a = x := by simp [va_up]
theorem z_un {h : zH} {a b : Nat} {x : Option (Nat × zC)} (q : b ≠ a) : va_up h a x b = h b := by simp [va_up, q]
theorem z_uu {h : zH} {a : Nat} {x y : Option (Nat × zC)} : va_up (va_up h a x) a y = va_up h a y := by
  funext b
  by_cases q : b = a <;> simp [va_up, q]
/-- two cells that hold different things are apart -/
theorem z_ap {h : zH} {a b : Nat} {x y : Nat × zC} (ha : h a = some x) (hb : h b = some y) (n : x ≠ y) : a ≠ b := by
  intro q
  subst q
  rw [ha] at hb
  exact n (Option.some.inj hb)
theorem z_apN {h : zH} {a b : Nat} {x : Nat × zC} (ha : h a = some x) (hb : h b = none) : a ≠ b := by
  intro q
  subst q
  rw [ha] at hb
  cases hb
def z_T0 (h : zH) (a : Nat) (l : List Nat) : Prop := ∃ g : Nat → Int32, h a = some (0, .inl (1, l.length, .inl g)) ∧ (∀ j, j < l.length → g j = nI (l.getD j 0)) ∧ l.length ≤ 200 ∧ ∀ x ∈ l, x < 256
def z_F0 (h : zH) (a : Nat) (f : zF) : Prop := ∃ rn rv : Nat, h a = some (0, .inr (0, [.ref rn, .ref rv, .int (z_bo f.2.2)])) ∧ z_T0 h rn f.1 ∧ z_T0 h rv f.2.1
/-- the room of a row's cells, by the most bytes that it has held -/
def z_c2 (m : Nat) : Nat := if m ≤ 32 then 32 else if m ≤ 64 then 64 else if m ≤ 128 then 128 else if m ≤ 256 then 256 else if m ≤ 512 then 512 else if m ≤ 1024 then 1024 else if m ≤ 2048 then 2048 else if m ≤ 4096 then 4096 else 8192
def z_cp (most m : Nat) : Nat := min most (z_c2 m)
/-- a row: its address, its most, the most bytes that it has held, all that was added (what is beyond its most isn't kept, but noted) -/
def z_Rw (h : zH) (t a most m : Nat) (l : List Nat) : Prop := ∃ (c : Nat) (g : Nat → Int32), h a = some (t, .inr (3, [.int (nI most), .ref c, .int (nI (min l.length most)), .int (z_bo (decide (most < l.length)))])) ∧ h c = some (t, .inl (1, z_cp most m, .inl g)) ∧ min l.length most ≤ m ∧ m ≤ most ∧ (most = 200 ∨ most = 6000) ∧ (∀ j, j < min l.length most → g j = nI (l.getD j 0)) ∧ ∀ x ∈ l, x < 256
def z_Fs (h : zH) (t a cap : Nat) (L : List zF) : Prop := ∃ (c : Nat) (g : Nat → Option Nat), h a = some (t, .inr (1, [.ref c, .int (nI L.length)])) ∧ h c = some (t, .inl (3, cap, .inr (.inr (.inr (.inr g))))) ∧ L.length ≤ cap ∧ cap ≤ 60 ∧ ∀ j, j < L.length → ∃ r, g j = some r ∧ z_F0 h r (L.getD j ([], [], false))
def z_cost (f : zF) : Nat := f.1.length + f.2.1.length + 32
def z_sum (L : List zF) : Nat := (L.map z_cost).sum
/-- a table: its fixed entries' address, its entries (the newest first), its limit -/
def z_Tb (h : zH) (t a af : Nat) (L : List zF) (lim : Nat) : Prop := ∃ (c : Nat) (g : Nat → Option Nat), h a = some (t, .inr (4, [.ref af, .ref c, .int (nI L.length), .int (nI (z_sum L)), .int (nI lim)])) ∧ h c = some (t, .inl (3, 128, .inr (.inr (.inr (.inr g))))) ∧ L.length ≤ 128 ∧ z_sum L ≤ 4096 ∧ lim ≤ 4096 ∧ ∀ j, j < L.length → ∃ r, g j = some r ∧ z_F0 h r (L.getD j ([], [], false))
theorem z_T0.fr {C : List Nat} {h h' : zH} {a : Nat} {l : List Nat} (p : z_T0 h a l) (f : z_fr C h h') (n : 0 ∉ C) : z_T0 h' a l := by
  obtain ⟨g, h1, h2⟩ := p
  exact ⟨g, f _ _ _ h1 n, h2⟩
theorem z_F0.fr {C : List Nat} {h h' : zH} {a : Nat} {q : zF} (p : z_F0 h a q) (f : z_fr C h h') (n : 0 ∉ C) : z_F0 h' a q := by
  obtain ⟨rn, rv, h1, h2, h3⟩ := p
  exact ⟨rn, rv, f _ _ _ h1 n, h2.fr f n, h3.fr f n⟩
theorem z_Rw.fr {C : List Nat} {h h' : zH} {t a most m : Nat} {l : List Nat} (p : z_Rw h t a most m l) (f : z_fr C h h') (n : t ∉ C) : z_Rw h' t a most m l := by
  obtain ⟨c, g, h1, h2, h3⟩ := p
  exact ⟨c, g, f _ _ _ h1 n, f _ _ _ h2 n, h3⟩
theorem z_Fs.fr {C : List Nat} {h h' : zH} {t a cap : Nat} {L : List zF} (p : z_Fs h t a cap L) (f : z_fr C h h') (n : t ∉ C) (n0 : 0 ∉ C) : z_Fs h' t a cap L := by
  obtain ⟨c, g, h1, h2, h3, h4, h5⟩ := p
  refine ⟨c, g, f _ _ _ h1 n, f _ _ _ h2 n, h3, h4, fun j hj => ?_⟩
  obtain ⟨r, e1, e2⟩ := h5 j hj
  exact ⟨r, e1, e2.fr f n0⟩
theorem z_Tb.fr {C : List Nat} {h h' : zH} {t a af lim : Nat} {L : List zF} (p : z_Tb h t a af L lim) (f : z_fr C h h') (n : t ∉ C) (n0 : 0 ∉ C) : z_Tb h' t a af L lim := by
  obtain ⟨c, g, h1, h2, h3, h4, h5, h6⟩ := p
  refine ⟨c, g, f _ _ _ h1 n, f _ _ _ h2 n, h3, h4, h5, fun j hj => ?_⟩
  obtain ⟨r, e1, e2⟩ := h6 j hj
  exact ⟨r, e1, e2.fr f n0⟩
theorem z_min {a b : Nat} (ha : a < 2 ^ 31) (hb : b < 2 ^ 31) : (if nI b < nI a then nI b else nI a) = nI (min a b) := by
  by_cases q : b < a
  · rw [if_pos ((nI_ltI hb ha).mpr q), Nat.min_eq_right (by omega)]
  · rw [if_neg (fun z => q ((nI_ltI hb ha).mp z)), Nat.min_eq_left (by omega)]
theorem z_c0 : (nI 0).toNatClampNeg = 0 := by decide
