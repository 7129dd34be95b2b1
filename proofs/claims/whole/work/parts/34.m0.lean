/-! THE REFERENCE: its heap as one state (its numbers v, its rows g) over any heap; the rows for it -/
def z_mo (bd : Nat → Nat) (v : Nat → Int32) : List Value := [.int (v 0), .ref (bd 1), .ref (bd 2), .ref (bd 3), .int (v 4), .int (v 5), .int (v 6), .int (v 7), .ref (bd 8), .int (v 9), .ref (bd 10), .int (v 11), .ref (bd 12), .ref (bd 13), .ref (bd 14), .ref (bd 15), .int (v 16), .int (v 17), .ref (bd 18), .int (v 19), .ref (bd 20), .int (v 21), .int (v 22), .int (v 23), .ref (bd 24), .int (v 25), .int (v 26), .int (v 27), .int (v 28), .int (v 29), .int (v 30)]
def z_mh (h : zH) (y : Nat) (bd : Nat → Nat) (v : Nat → Int32) (g : Nat → Nat → Int32) : zH := fun a => if a = y then some (30, .inr (7, z_mo bd v)) else if a = bd 1 then some (31, .inl (0, 260800, .inl (g 1))) else if a = bd 2 then some (32, .inl (1, 1304, .inl (g 2))) else if a = bd 3 then some (33, .inl (2, 140, .inl (g 3))) else if a = bd 8 then some (38, .inl (0, 200, .inl (g 8))) else if a = bd 10 then some (40, .inl (0, 200, .inl (g 10))) else if a = bd 12 then some (42, .inl (1, 2, .inl (g 12))) else if a = bd 13 then some (43, .inl (1, 2, .inl (g 13))) else if a = bd 14 then some (44, .inl (1, 2, .inl (g 14))) else if a = bd 15 then some (45, .inl (1, 2, .inl (g 15))) else if a = bd 18 then some (48, .inl (0, 6000, .inl (g 18))) else if a = bd 20 then some (50, .inl (0, 6000, .inl (g 20))) else if a = bd 24 then some (54, .inl (0, 6000, .inl (g 24))) else h a
def zix : List Nat := [1, 2, 3, 8, 10, 12, 13, 14, 15, 18, 20, 24]
def z_md (y : Nat) (bd : Nat → Nat) : Prop := (∀ k ∈ zix, bd k ≠ y) ∧ ∀ i ∈ zix, ∀ j ∈ zix, i ≠ j → bd i ≠ bd j
section MD
variable {h : zH} {y : Nat} {bd : Nat → Nat} {v v' : Nat → Int32} {g : Nat → Nat → Int32}
theorem zm_y : z_mh h y bd v g y = some (30, .inr (7, z_mo bd v)) := if_pos rfl
theorem zm_a1 (hd : z_md y bd) : z_mh h y bd v g (bd 1) = some (31, .inl (0, 260800, .inl (g 1))) := by
  unfold z_mh
  rw [if_neg (hd.1 1 (by decide)), if_pos rfl]
theorem zm_a2 (hd : z_md y bd) : z_mh h y bd v g (bd 2) = some (32, .inl (1, 1304, .inl (g 2))) := by
  unfold z_mh
  rw [if_neg (hd.1 2 (by decide)), if_neg (hd.2 2 (by decide) 1 (by decide) (by decide)), if_pos rfl]
theorem zm_a3 (hd : z_md y bd) : z_mh h y bd v g (bd 3) = some (33, .inl (2, 140, .inl (g 3))) := by
  unfold z_mh
  rw [if_neg (hd.1 3 (by decide)), if_neg (hd.2 3 (by decide) 1 (by decide) (by decide)), if_neg (hd.2 3 (by decide) 2 (by decide) (by decide)), if_pos rfl]
theorem zm_a8 (hd : z_md y bd) : z_mh h y bd v g (bd 8) = some (38, .inl (0, 200, .inl (g 8))) := by
  unfold z_mh
  rw [if_neg (hd.1 8 (by decide)), if_neg (hd.2 8 (by decide) 1 (by decide) (by decide)), if_neg (hd.2 8 (by decide) 2 (by decide) (by decide)), if_neg (hd.2 8 (by decide) 3 (by decide) (by decide)), if_pos rfl]
theorem zm_a10 (hd : z_md y bd) : z_mh h y bd v g (bd 10) = some (40, .inl (0, 200, .inl (g 10))) := by
  unfold z_mh
  rw [if_neg (hd.1 10 (by decide)), if_neg (hd.2 10 (by decide) 1 (by decide) (by decide)), if_neg (hd.2 10 (by decide) 2 (by decide) (by decide)), if_neg (hd.2 10 (by decide) 3 (by decide) (by decide)), if_neg (hd.2 10 (by decide) 8 (by decide) (by decide)), if_pos rfl]
theorem zm_a12 (hd : z_md y bd) : z_mh h y bd v g (bd 12) = some (42, .inl (1, 2, .inl (g 12))) := by
  unfold z_mh
  rw [if_neg (hd.1 12 (by decide)), if_neg (hd.2 12 (by decide) 1 (by decide) (by decide)), if_neg (hd.2 12 (by decide) 2 (by decide) (by decide)), if_neg (hd.2 12 (by decide) 3 (by decide) (by decide)), if_neg (hd.2 12 (by decide) 8 (by decide) (by decide)), if_neg (hd.2 12 (by decide) 10 (by decide) (by decide)), if_pos rfl]
theorem zm_a13 (hd : z_md y bd) : z_mh h y bd v g (bd 13) = some (43, .inl (1, 2, .inl (g 13))) := by
  unfold z_mh
  rw [if_neg (hd.1 13 (by decide)), if_neg (hd.2 13 (by decide) 1 (by decide) (by decide)), if_neg (hd.2 13 (by decide) 2 (by decide) (by decide)), if_neg (hd.2 13 (by decide) 3 (by decide) (by decide)), if_neg (hd.2 13 (by decide) 8 (by decide) (by decide)), if_neg (hd.2 13 (by decide) 10 (by decide) (by decide)), if_neg (hd.2 13 (by decide) 12 (by decide) (by decide)), if_pos rfl]
theorem zm_a14 (hd : z_md y bd) : z_mh h y bd v g (bd 14) = some (44, .inl (1, 2, .inl (g 14))) := by
  unfold z_mh
  rw [if_neg (hd.1 14 (by decide)), if_neg (hd.2 14 (by decide) 1 (by decide) (by decide)), if_neg (hd.2 14 (by decide) 2 (by decide) (by decide)), if_neg (hd.2 14 (by decide) 3 (by decide) (by decide)), if_neg (hd.2 14 (by decide) 8 (by decide) (by decide)), if_neg (hd.2 14 (by decide) 10 (by decide) (by decide)), if_neg (hd.2 14 (by decide) 12 (by decide) (by decide)), if_neg (hd.2 14 (by decide) 13 (by decide) (by decide)), if_pos rfl]
theorem zm_a15 (hd : z_md y bd) : z_mh h y bd v g (bd 15) = some (45, .inl (1, 2, .inl (g 15))) := by
  unfold z_mh
  rw [if_neg (hd.1 15 (by decide)), if_neg (hd.2 15 (by decide) 1 (by decide) (by decide)), if_neg (hd.2 15 (by decide) 2 (by decide) (by decide)), if_neg (hd.2 15 (by decide) 3 (by decide) (by decide)), if_neg (hd.2 15 (by decide) 8 (by decide) (by decide)), if_neg (hd.2 15 (by decide) 10 (by decide) (by decide)), if_neg (hd.2 15 (by decide) 12 (by decide) (by decide)), if_neg (hd.2 15 (by decide) 13 (by decide) (by decide)), if_neg (hd.2 15 (by decide) 14 (by decide) (by decide)), if_pos rfl]
theorem zm_a18 (hd : z_md y bd) : z_mh h y bd v g (bd 18) = some (48, .inl (0, 6000, .inl (g 18))) := by
  unfold z_mh
  rw [if_neg (hd.1 18 (by decide)), if_neg (hd.2 18 (by decide) 1 (by decide) (by decide)), if_neg (hd.2 18 (by decide) 2 (by decide) (by decide)), if_neg (hd.2 18 (by decide) 3 (by decide) (by decide)), if_neg (hd.2 18 (by decide) 8 (by decide) (by decide)), if_neg (hd.2 18 (by decide) 10 (by decide) (by decide)), if_neg (hd.2 18 (by decide) 12 (by decide) (by decide)), if_neg (hd.2 18 (by decide) 13 (by decide) (by decide)), if_neg (hd.2 18 (by decide) 14 (by decide) (by decide)), if_neg (hd.2 18 (by decide) 15 (by decide) (by decide)), if_pos rfl]
theorem zm_a20 (hd : z_md y bd) : z_mh h y bd v g (bd 20) = some (50, .inl (0, 6000, .inl (g 20))) := by
  unfold z_mh
  rw [if_neg (hd.1 20 (by decide)), if_neg (hd.2 20 (by decide) 1 (by decide) (by decide)), if_neg (hd.2 20 (by decide) 2 (by decide) (by decide)), if_neg (hd.2 20 (by decide) 3 (by decide) (by decide)), if_neg (hd.2 20 (by decide) 8 (by decide) (by decide)), if_neg (hd.2 20 (by decide) 10 (by decide) (by decide)), if_neg (hd.2 20 (by decide) 12 (by decide) (by decide)), if_neg (hd.2 20 (by decide) 13 (by decide) (by decide)), if_neg (hd.2 20 (by decide) 14 (by decide) (by decide)), if_neg (hd.2 20 (by decide) 15 (by decide) (by decide)), if_neg (hd.2 20 (by decide) 18 (by decide) (by decide)), if_pos rfl]
theorem zm_a24 (hd : z_md y bd) : z_mh h y bd v g (bd 24) = some (54, .inl (0, 6000, .inl (g 24))) := by
  unfold z_mh
  rw [if_neg (hd.1 24 (by decide)), if_neg (hd.2 24 (by decide) 1 (by decide) (by decide)), if_neg (hd.2 24 (by decide) 2 (by decide) (by decide)), if_neg (hd.2 24 (by decide) 3 (by decide) (by decide)), if_neg (hd.2 24 (by decide) 8 (by decide) (by decide)), if_neg (hd.2 24 (by decide) 10 (by decide) (by decide)), if_neg (hd.2 24 (by decide) 12 (by decide) (by decide)), if_neg (hd.2 24 (by decide) 13 (by decide) (by decide)), if_neg (hd.2 24 (by decide) 14 (by decide) (by decide)), if_neg (hd.2 24 (by decide) 15 (by decide) (by decide)), if_neg (hd.2 24 (by decide) 18 (by decide) (by decide)), if_neg (hd.2 24 (by decide) 20 (by decide) (by decide)), if_pos rfl]
theorem zm_uy : va_up (z_mh h y bd v g) y (some (30, .inr (7, z_mo bd v'))) = z_mh h y bd v' g := by
  funext a
  by_cases q : a = y
  · simp only [va_up, z_mh, q, if_true]
  · simp only [va_up, z_mh, q, if_false]
theorem zm_u1 (hd : z_md y bd) {f : Nat → Int32} : va_up (z_mh h y bd v g) (bd 1) (some (31, .inl (0, 260800, .inl f))) = z_mh h y bd v (va_up g 1 f) := by
  funext a
  by_cases q : a = bd 1
  · rw [q, zm_a1 hd, va_up_self, va_up_self]
  · rw [va_up_ne _ _ q]
    simp only [z_mh, va_up, q, if_false, Nat.reduceEqDiff, ↓reduceIte]
theorem zm_u2 (hd : z_md y bd) {f : Nat → Int32} : va_up (z_mh h y bd v g) (bd 2) (some (32, .inl (1, 1304, .inl f))) = z_mh h y bd v (va_up g 2 f) := by
  funext a
  by_cases q : a = bd 2
  · rw [q, zm_a2 hd, va_up_self, va_up_self]
  · rw [va_up_ne _ _ q]
    simp only [z_mh, va_up, q, if_false, Nat.reduceEqDiff, ↓reduceIte]
theorem zm_u3 (hd : z_md y bd) {f : Nat → Int32} : va_up (z_mh h y bd v g) (bd 3) (some (33, .inl (2, 140, .inl f))) = z_mh h y bd v (va_up g 3 f) := by
  funext a
  by_cases q : a = bd 3
  · rw [q, zm_a3 hd, va_up_self, va_up_self]
  · rw [va_up_ne _ _ q]
    simp only [z_mh, va_up, q, if_false, Nat.reduceEqDiff, ↓reduceIte]
theorem zm_u8 (hd : z_md y bd) {f : Nat → Int32} : va_up (z_mh h y bd v g) (bd 8) (some (38, .inl (0, 200, .inl f))) = z_mh h y bd v (va_up g 8 f) := by
  funext a
  by_cases q : a = bd 8
  · rw [q, zm_a8 hd, va_up_self, va_up_self]
  · rw [va_up_ne _ _ q]
    simp only [z_mh, va_up, q, if_false, Nat.reduceEqDiff, ↓reduceIte]
theorem zm_u10 (hd : z_md y bd) {f : Nat → Int32} : va_up (z_mh h y bd v g) (bd 10) (some (40, .inl (0, 200, .inl f))) = z_mh h y bd v (va_up g 10 f) := by
  funext a
  by_cases q : a = bd 10
  · rw [q, zm_a10 hd, va_up_self, va_up_self]
  · rw [va_up_ne _ _ q]
    simp only [z_mh, va_up, q, if_false, Nat.reduceEqDiff, ↓reduceIte]
theorem zm_u12 (hd : z_md y bd) {f : Nat → Int32} : va_up (z_mh h y bd v g) (bd 12) (some (42, .inl (1, 2, .inl f))) = z_mh h y bd v (va_up g 12 f) := by
  funext a
  by_cases q : a = bd 12
  · rw [q, zm_a12 hd, va_up_self, va_up_self]
  · rw [va_up_ne _ _ q]
    simp only [z_mh, va_up, q, if_false, Nat.reduceEqDiff, ↓reduceIte]
theorem zm_u13 (hd : z_md y bd) {f : Nat → Int32} : va_up (z_mh h y bd v g) (bd 13) (some (43, .inl (1, 2, .inl f))) = z_mh h y bd v (va_up g 13 f) := by
  funext a
  by_cases q : a = bd 13
  · rw [q, zm_a13 hd, va_up_self, va_up_self]
  · rw [va_up_ne _ _ q]
    simp only [z_mh, va_up, q, if_false, Nat.reduceEqDiff, ↓reduceIte]
theorem zm_u14 (hd : z_md y bd) {f : Nat → Int32} : va_up (z_mh h y bd v g) (bd 14) (some (44, .inl (1, 2, .inl f))) = z_mh h y bd v (va_up g 14 f) := by
  funext a
  by_cases q : a = bd 14
  · rw [q, zm_a14 hd, va_up_self, va_up_self]
  · rw [va_up_ne _ _ q]
    simp only [z_mh, va_up, q, if_false, Nat.reduceEqDiff, ↓reduceIte]
theorem zm_u15 (hd : z_md y bd) {f : Nat → Int32} : va_up (z_mh h y bd v g) (bd 15) (some (45, .inl (1, 2, .inl f))) = z_mh h y bd v (va_up g 15 f) := by
  funext a
  by_cases q : a = bd 15
  · rw [q, zm_a15 hd, va_up_self, va_up_self]
  · rw [va_up_ne _ _ q]
    simp only [z_mh, va_up, q, if_false, Nat.reduceEqDiff, ↓reduceIte]
theorem zm_u18 (hd : z_md y bd) {f : Nat → Int32} : va_up (z_mh h y bd v g) (bd 18) (some (48, .inl (0, 6000, .inl f))) = z_mh h y bd v (va_up g 18 f) := by
  funext a
  by_cases q : a = bd 18
  · rw [q, zm_a18 hd, va_up_self, va_up_self]
  · rw [va_up_ne _ _ q]
    simp only [z_mh, va_up, q, if_false, Nat.reduceEqDiff, ↓reduceIte]
theorem zm_u20 (hd : z_md y bd) {f : Nat → Int32} : va_up (z_mh h y bd v g) (bd 20) (some (50, .inl (0, 6000, .inl f))) = z_mh h y bd v (va_up g 20 f) := by
  funext a
  by_cases q : a = bd 20
  · rw [q, zm_a20 hd, va_up_self, va_up_self]
  · rw [va_up_ne _ _ q]
    simp only [z_mh, va_up, q, if_false, Nat.reduceEqDiff, ↓reduceIte]
theorem zm_u24 (hd : z_md y bd) {f : Nat → Int32} : va_up (z_mh h y bd v g) (bd 24) (some (54, .inl (0, 6000, .inl f))) = z_mh h y bd v (va_up g 24 f) := by
  funext a
  by_cases q : a = bd 24
  · rw [q, zm_a24 hd, va_up_self, va_up_self]
  · rw [va_up_ne _ _ q]
    simp only [z_mh, va_up, q, if_false, Nat.reduceEqDiff, ↓reduceIte]
theorem zm_g0 : (z_mo bd v)[0]? = some (.int (v 0)) := rfl
theorem zm_g1 : (z_mo bd v)[1]? = some (.ref (bd 1)) := rfl
theorem zm_g2 : (z_mo bd v)[2]? = some (.ref (bd 2)) := rfl
theorem zm_g3 : (z_mo bd v)[3]? = some (.ref (bd 3)) := rfl
theorem zm_g4 : (z_mo bd v)[4]? = some (.int (v 4)) := rfl
theorem zm_g5 : (z_mo bd v)[5]? = some (.int (v 5)) := rfl
theorem zm_g6 : (z_mo bd v)[6]? = some (.int (v 6)) := rfl
theorem zm_g7 : (z_mo bd v)[7]? = some (.int (v 7)) := rfl
theorem zm_g8 : (z_mo bd v)[8]? = some (.ref (bd 8)) := rfl
theorem zm_g9 : (z_mo bd v)[9]? = some (.int (v 9)) := rfl
theorem zm_g10 : (z_mo bd v)[10]? = some (.ref (bd 10)) := rfl
theorem zm_g11 : (z_mo bd v)[11]? = some (.int (v 11)) := rfl
theorem zm_g12 : (z_mo bd v)[12]? = some (.ref (bd 12)) := rfl
theorem zm_g13 : (z_mo bd v)[13]? = some (.ref (bd 13)) := rfl
theorem zm_g14 : (z_mo bd v)[14]? = some (.ref (bd 14)) := rfl
theorem zm_g15 : (z_mo bd v)[15]? = some (.ref (bd 15)) := rfl
theorem zm_g16 : (z_mo bd v)[16]? = some (.int (v 16)) := rfl
theorem zm_g17 : (z_mo bd v)[17]? = some (.int (v 17)) := rfl
theorem zm_g18 : (z_mo bd v)[18]? = some (.ref (bd 18)) := rfl
theorem zm_g19 : (z_mo bd v)[19]? = some (.int (v 19)) := rfl
theorem zm_g20 : (z_mo bd v)[20]? = some (.ref (bd 20)) := rfl
theorem zm_g21 : (z_mo bd v)[21]? = some (.int (v 21)) := rfl
theorem zm_g22 : (z_mo bd v)[22]? = some (.int (v 22)) := rfl
theorem zm_g23 : (z_mo bd v)[23]? = some (.int (v 23)) := rfl
theorem zm_g24 : (z_mo bd v)[24]? = some (.ref (bd 24)) := rfl
theorem zm_g25 : (z_mo bd v)[25]? = some (.int (v 25)) := rfl
theorem zm_g26 : (z_mo bd v)[26]? = some (.int (v 26)) := rfl
theorem zm_g27 : (z_mo bd v)[27]? = some (.int (v 27)) := rfl
theorem zm_g28 : (z_mo bd v)[28]? = some (.int (v 28)) := rfl
theorem zm_g29 : (z_mo bd v)[29]? = some (.int (v 29)) := rfl
theorem zm_g30 : (z_mo bd v)[30]? = some (.int (v 30)) := rfl
theorem zm_s0 {x : Int32} : (z_mo bd v).set 0 (.int x) = z_mo bd (va_up v 0 x) := rfl
theorem zm_s4 {x : Int32} : (z_mo bd v).set 4 (.int x) = z_mo bd (va_up v 4 x) := rfl
theorem zm_s5 {x : Int32} : (z_mo bd v).set 5 (.int x) = z_mo bd (va_up v 5 x) := rfl
theorem zm_s6 {x : Int32} : (z_mo bd v).set 6 (.int x) = z_mo bd (va_up v 6 x) := rfl
theorem zm_s7 {x : Int32} : (z_mo bd v).set 7 (.int x) = z_mo bd (va_up v 7 x) := rfl
theorem zm_s9 {x : Int32} : (z_mo bd v).set 9 (.int x) = z_mo bd (va_up v 9 x) := rfl
theorem zm_s11 {x : Int32} : (z_mo bd v).set 11 (.int x) = z_mo bd (va_up v 11 x) := rfl
theorem zm_s16 {x : Int32} : (z_mo bd v).set 16 (.int x) = z_mo bd (va_up v 16 x) := rfl
theorem zm_s17 {x : Int32} : (z_mo bd v).set 17 (.int x) = z_mo bd (va_up v 17 x) := rfl
theorem zm_s19 {x : Int32} : (z_mo bd v).set 19 (.int x) = z_mo bd (va_up v 19 x) := rfl
theorem zm_s21 {x : Int32} : (z_mo bd v).set 21 (.int x) = z_mo bd (va_up v 21 x) := rfl
theorem zm_s22 {x : Int32} : (z_mo bd v).set 22 (.int x) = z_mo bd (va_up v 22 x) := rfl
theorem zm_s23 {x : Int32} : (z_mo bd v).set 23 (.int x) = z_mo bd (va_up v 23 x) := rfl
theorem zm_s25 {x : Int32} : (z_mo bd v).set 25 (.int x) = z_mo bd (va_up v 25 x) := rfl
theorem zm_s26 {x : Int32} : (z_mo bd v).set 26 (.int x) = z_mo bd (va_up v 26 x) := rfl
theorem zm_s27 {x : Int32} : (z_mo bd v).set 27 (.int x) = z_mo bd (va_up v 27 x) := rfl
theorem zm_s28 {x : Int32} : (z_mo bd v).set 28 (.int x) = z_mo bd (va_up v 28 x) := rfl
theorem zm_s29 {x : Int32} : (z_mo bd v).set 29 (.int x) = z_mo bd (va_up v 29 x) := rfl
theorem zm_s30 {x : Int32} : (z_mo bd v).set 30 (.int x) = z_mo bd (va_up v 30 x) := rfl
theorem zm_len : (z_mo bd v).length = 31 := rfl
end MD
theorem zv {f : Nat → Int32} {a b : Nat} {x : Int32} : va_up f a x b = if b = a then x else f b := rfl
theorem zvg {f : Nat → Nat → Int32} {a b : Nat} {x : Nat → Int32} : va_up f a x b = if b = a then x else f b := rfl
theorem zvv {α : Type} {f : Nat → α} {a : Nat} {x z : α} : va_up (va_up f a x) a z = va_up f a z := by
  funext b
  by_cases q : b = a <;> simp [va_up, q]
theorem zn0 {x : Int32} : vp_nar (z_ty 0) x = x.toInt8.toInt32 := rfl
theorem zn8 {x : Int32} : x.toInt8.toInt32.toInt8 = x.toInt8 := by simp
theorem zn20 : vp_nar (z_ty 2) (nI 0) = nI 0 := by decide +kernel
theorem zn21 : vp_nar (z_ty 2) (nI 1) = nI 1 := by decide +kernel
theorem zn2b {b : Bool} : vp_nar (z_ty 2) (z_bo b) = z_bo b := by cases b <;> decide +kernel
theorem znb {c : Nat} : (sb_b c).toInt8.toInt32 = sb_b c := by
  unfold sb_b
  rw [zn8]
theorem znI {c : Nat} : (nI c).toInt8.toInt32 = sb_b c := rfl
theorem znm {x : Int32} : x + -1 = x - nI 1 := by
  rw [Int32.sub_eq_add_neg]
  rfl
/-- nothing has changed but in the places C -/
def z_kf {α : Type} (C : List Nat) (f f' : Nat → α) : Prop := ∀ k, k ∉ C → f' k = f k
theorem z_kf.rf {α : Type} {C : List Nat} {f : Nat → α} : z_kf C f f := fun _ _ => rfl
theorem z_kf.tr {α : Type} {C : List Nat} {f f' f'' : Nat → α} (p : z_kf C f f') (q : z_kf C f' f'') : z_kf C f f'' := fun k n => (q k n).trans (p k n)
theorem z_kf.mo {α : Type} {C C' : List Nat} {f f' : Nat → α} (p : z_kf C f f') (s : ∀ t ∈ C, t ∈ C') : z_kf C' f f' := fun k n => p k (fun m => n (s k m))
theorem z_kf.up {α : Type} {C : List Nat} {f f' : Nat → α} (p : z_kf C f f') {a : Nat} {x : α} (h : a ∈ C) : z_kf C f (va_up f' a x) := fun k n => (va_up_ne f' x (fun e : k = a => n (by rw [e]; exact h))).trans (p k n)
/-- the bytes of a row -/
def z_br (q : Nat → Int32) (w : List Nat) : Prop := (∀ j, j < w.length → q j = sb_b (w.getD j 0)) ∧ ∀ x ∈ w, x < 256
theorem z_br.add {q : Nat → Int32} {w : List Nat} (p : z_br q w) {c : Nat} (hc : c < 256) : z_br (upd q w.length (sb_b c)) (w ++ [c]) := by
  refine ⟨fun j hj => ?_, fun x hx => ?_⟩
  · rw [List.length_append] at hj
    have hj : j < w.length + 1 := hj
    by_cases e : j = w.length
    · subst e
      rw [pk_us]
      have := z_gdr (w := w) (v := [c]) (j := 0)
      rw [Nat.add_zero] at this
      rw [this]
      rfl
    · rw [pk_un e, z_gdl (by omega)]
      exact p.1 j (by omega)
  · rcases List.mem_append.mp hx with hx | hx
    · exact p.2 x hx
    · rw [List.mem_singleton.mp hx]; exact hc
theorem z_br.nil {q : Nat → Int32} : z_br q [] := ⟨fun j hj => by simp at hj, fun x hx => by simp at hx⟩
theorem sb_255 {c : Nat} (h : c < 256) : sb_b c &&& nI 255 = nI c := (sb_byte c h).1
theorem zB_sar (B : Int64) {i : Nat} (hi : i < 8) : (B >>> ((nI (8 * i)).toInt64 &&& 63)).toInt32.toInt8.toInt32 = sb_b (zB B i) := by
  have h1 : (B >>> ((nI (8 * i)).toInt64 &&& 63)).toInt32 &&& nI 255 = nI (zB B i) := by
    rw [z_255, z_i32]
    congr 1
    have hs : ((nI (8 * i)).toInt64 &&& 63) = Int64.ofNat (8 * i) := by
      have : ∀ i, i < 8 → ((nI (8 * i)).toInt64 &&& 63) = Int64.ofNat (8 * i) := by decide +kernel
      exact this i hi
    rw [hs]
    have hu : uN (B >>> Int64.ofNat (8 * i)) = (BitVec.sshiftRight B.toBitVec (8 * i)).toNat := by
      have hm : ((Int64.ofNat (8 * i)).toBitVec.smod 64).toNat = 8 * i := by
        have : ∀ i, i < 8 → ((Int64.ofNat (8 * i)).toBitVec.smod 64).toNat = 8 * i := by decide +kernel
        exact this i hi
      show (BitVec.sshiftRight B.toBitVec ((Int64.ofNat (8 * i)).toBitVec.smod 64).toNat).toNat = _
      rw [hm]
    have e : ∀ j, j < 8 → (BitVec.sshiftRight B.toBitVec (8 * i)).toNat.testBit j = (B.toBitVec.toNat / 2 ^ (8 * i)).testBit j := by
      intro j hj
      have a := BitVec.getLsbD_sshiftRight B.toBitVec (8 * i) j
      rw [BitVec.getLsbD, BitVec.getLsbD] at a
      rw [a, Nat.testBit_div_two_pow]
      have h64 : ¬ 64 ≤ j := by omega
      have h64' : 8 * i + j < 64 := by omega
      rw [if_pos h64', decide_eq_false h64, Nat.add_comm]
      simp
    rw [hu, Nat.mod_mod_of_dvd _ (by decide)]
    show _ = B.toBitVec.toNat / 2 ^ (8 * i) % 256
    apply Nat.eq_of_testBit_eq
    intro j
    rw [show 256 = 2 ^ 8 from rfl, Nat.testBit_mod_two_pow, Nat.testBit_mod_two_pow]
    by_cases hj : j < 8
    · rw [e j hj]
    · simp [hj]
  have h2 : ∀ x : Int32, (x &&& nI 255).toInt8 = x.toInt8 := by
    intro x
    rw [Int32.toInt8_and]
    have : (nI 255).toInt8 = -1 := by decide +kernel
    rw [this]
    exact Int8.and_neg_one
  unfold sb_b
  rw [← h1, h2]

