/-! THE WRITING OF NUMBERS AND TEXTS, PURELY; what an append costs -/
theorem z_lvw {l : Launch} {D : va_G} {A : Nat → Prop} {sa sv : Nat} {cc : ByteArray} {nL fr lc mc ms : Nat} {own : String} {ws : List Jvm.Cond} {E : zE} {X : Nat → Option (Nat × Nat × (Nat → Int32))} {Post : Option Value → zH → Prop} {G : zK} (hG : z_Rl l D A sa sv cc nL fr lc mc ms own ws E X Post G) {pc : Nat} {lv : zL} (lv' : zL) {st : List Value} {h : zH} {cs sl : Nat} (hs : ∀ q ∈ lv', q ∈ lv) (k : G pc lv' st h cs sl) : G pc lv st h cs sl := hG.2.2.2.2.2.2.2 pc lv lv' st h cs sl cs sl hs (Nat.le_refl _) (Nat.le_refl _) k
def z_eR (r : Nat) : List Nat := if r ≤ 127 then [r] else (128 + r % 128) :: z_eR (r / 128)
termination_by r
decreasing_by omega
def z_eN (mark bits v : Nat) : List Nat := if v < 2 ^ bits - 1 then [mark + v] else (mark + (2 ^ bits - 1)) :: z_eR (v - (2 ^ bits - 1))
/-- the value and the bits of a byte of a tight text -/
def z_tc (c : Nat) : Nat × Nat := if z_sg c < 31 then (z_sg c, 5) else (7936 + c, 13)
def z_bx (H B : Nat) : List Nat := if 8 ≤ B then (H / 2 ^ (B - 8) % 256) :: z_bx H (B - 8) else []
termination_by B
decreasing_by omega
def z_tb : List Nat → Nat → Nat → List Nat
  | [], H, b => if 0 < b then [(H * 2 ^ (8 - b) + (2 ^ (8 - b) - 1)) % 256] else []
  | c :: t, H, b => z_bx (H * 2 ^ (z_tc c).2 + (z_tc c).1) (b + (z_tc c).2) ++ z_tb t ((H * 2 ^ (z_tc c).2 + (z_tc c).1) % 256) ((b + (z_tc c).2) % 8)
def z_bits (x : List Nat) : Nat := (x.map (fun c => (z_tc c).2)).sum
def z_ts (x : List Nat) : Nat := (z_bits x + 7) / 8
def z_eT (x : List Nat) : List Nat := if z_ts x < x.length then z_eN 128 7 (z_ts x) ++ z_tb x 0 0 else z_eN 0 7 x.length ++ x
def zM (m : Nat) (w e : List Nat) : Nat := max m (min (w.length + e.length) 6000)
def zk (m m' : Nat) : Nat := z_cp 6000 m' - z_cp 6000 m
def zAp (h : zH) (ao m : Nat) (w e : List Nat) (r : Option Value) (h' : zH) : Prop := r = none ∧ z_Rw h' 4 ao 6000 (zM m w e) (w ++ e) ∧ z_fr [4] h h'
theorem zM_app (m : Nat) (w e1 e2 : List Nat) : zM (zM m w e1) (w ++ e1) e2 = zM m w (e1 ++ e2) := by
  unfold zM
  rw [List.length_append, List.length_append]
  omega
theorem zM_ge (m : Nat) (w e : List Nat) : m ≤ zM m w e := by unfold zM; omega
theorem zM_nil {m : Nat} {w : List Nat} (h : min w.length 6000 ≤ m) : zM m w [] = m := by
  unfold zM
  simp
  omega
theorem zM_sub (m : Nat) (w e1 e2 : List Nat) : zM m w e1 ≤ zM m w (e1 ++ e2) := by
  unfold zM
  rw [List.length_append]
  omega
theorem z_Rw.lo {h : zH} {t a most m : Nat} {w : List Nat} (p : z_Rw h t a most m w) : min w.length most ≤ m := by
  obtain ⟨_, _, _, _, q, _⟩ := p
  exact q
theorem z_Rw.ob {h : zH} {t a most m : Nat} {w : List Nat} (p : z_Rw h t a most m w) : ∃ fs, h a = some (t, .inr (3, fs)) := by
  obtain ⟨_, _, q, _⟩ := p
  exact ⟨_, q⟩
theorem c_out_add {l : Launch} {D : va_G} {A : Nat → Prop} {sa sv : Nat} {h : zH} {ao m b : Nat} {w : List Nat} (hw : z_Rw h 4 ao 6000 m w) (hb : b < 256) : z_Met l D A sa sv yX3_add wsX3_add 2 82 [.ref ao, .int (nI b)] h (zAp h ao m w [b]) (zk m (zM m w [b])) (4 * zk m (zM m w [b])) := c_Row_add hw hb
theorem z_msk : ∀ b, b < 16 → nI 1 <<< (nI b &&& 31) - nI 1 = nI (2 ^ b - 1) := by decide +kernel
theorem z_or (k a s : Nat) (hs : s < 2 ^ k) : nI (a * 2 ^ k) ||| nI s = nI (a * 2 ^ k + s) := by
  have h : nI (a * 2 ^ k) ||| nI s = nI (a * 2 ^ k ||| s) := by
    apply Int32.toBitVec.inj
    show BitVec.ofNat 32 _ ||| BitVec.ofNat 32 _ = BitVec.ofNat 32 _
    rw [BitVec.ofNat_or]
  rw [h, Nat.mul_comm, Nat.two_pow_add_eq_or_of_lt hs]
theorem z_eR_by (r : Nat) (h : r ≤ 1000000) : ∀ x ∈ z_eR r, x < 256 := by
  induction r using Nat.strongRecOn with
  | ind r ih =>
    intro x hx
    rw [z_eR] at hx
    split at hx
    · rw [List.mem_singleton.mp hx]; omega
    · rcases List.mem_cons.mp hx with rfl | hx
      · omega
      · exact ih (r / 128) (by omega) (by omega) x hx
