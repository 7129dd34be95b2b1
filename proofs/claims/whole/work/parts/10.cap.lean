/-! ROW -/
theorem z_cp_ge {most m : Nat} (hm : m ≤ most) (hq : most = 200 ∨ most = 6000) : m ≤ z_cp most m ∧ z_cp most m ≤ most ∧ 32 ≤ z_cp most m := by
  unfold z_cp z_c2
  rcases hq with rfl | rfl <;> (repeat' split) <;> omega
theorem z_cp_grow {most m n : Nat} (hq : most = 200 ∨ most = 6000) (hn : n < most) (hnm : n ≤ m) (hm : m ≤ most) (hc : z_cp most m ≤ n) : z_cp most (max m (n + 1)) = min most (2 * z_cp most m) ∧ 1 ≤ z_cp most (max m (n + 1)) - z_cp most m ∧ min most (2 * z_cp most m) ≤ 4 * (z_cp most (max m (n + 1)) - z_cp most m) := by
  have hg := z_cp_ge hm hq
  have : n = m := by omega
  subst this
  have e : max n (n + 1) = n + 1 := by omega
  rw [e]
  unfold z_cp z_c2 at *
  rcases hq with rfl | rfl <;> (repeat' split at hc) <;> (repeat' split) <;> omega
theorem z_cp_stay {most m n : Nat} (hq : most = 200 ∨ most = 6000) (hn : n < most) (hnm : n ≤ m) (hm : m ≤ most) (hc : n < z_cp most m) : z_cp most (max m (n + 1)) = z_cp most m := by
  by_cases q : n + 1 ≤ m
  · rw [Nat.max_eq_left q]
  · have : n = m := by omega
    subst this
    rw [Nat.max_eq_right (by omega)]
    unfold z_cp z_c2 at *
    rcases hq with rfl | rfl <;> (repeat' split at hc) <;> (repeat' split) <;> omega
