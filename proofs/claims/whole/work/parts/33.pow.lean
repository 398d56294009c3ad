/-! the powers of three that the reference counts with -/
def p3 (k : Int32) : Int32 := if k = 0 then 1 else if k = 1 then 3 else if k = 2 then 9 else if k = 3 then 27 else if k = 4 then 81 else if k = 5 then 243 else if k = 6 then 729 else 2187
theorem p3_s {k : Int32} (h0 : 0 ≤ k) (h1 : k < 7) : p3 k * 3 = p3 (k + 1) := by
  have h : k = 0 ∨ k = 1 ∨ k = 2 ∨ k = 3 ∨ k = 4 ∨ k = 5 ∨ k = 6 := by
    simp only [← Int32.toInt_inj, Int32.le_iff_toInt_le, Int32.lt_iff_toInt_lt, Int32.reduceToInt] at h0 h1 ⊢
    omega
  rcases h with rfl | rfl | rfl | rfl | rfl | rfl | rfl <;> decide
theorem p3_ge1 (k : Int32) : 1 ≤ p3 k := by
  unfold p3
  repeat' split
  all_goals decide
theorem p3_le (k : Int32) : p3 k ≤ 2187 := by
  unfold p3
  repeat' split
  all_goals decide
theorem p3_ge3 {k : Int32} (h : ¬ k = 0) : 3 ≤ p3 k := by
  unfold p3
  rw [if_neg h]
  repeat' split
  all_goals decide
theorem p3_k1 (k : Int32) : k + 1 - 1 = k := Int32.add_sub_cancel k 1
theorem p3_k2 (k : Int32) : k - 1 + 1 = k := Int32.sub_add_cancel k 1
