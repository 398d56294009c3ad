theorem y_count {tC x : Int32} {K P V rows : Nat → Int32} (t8 : tC.toInt ≤ 8) (hT : RT tC K P V rows) : ∀ (n : Nat) (i c : Int32), 0 ≤ i.toInt → fX3_countIn_l4 tC P x n i c = fX6_lieIn_l4 tC rows x n i c := by
  intro n
  induction n with
  | zero => intro i c i0; rw [fX3_countIn_l4, fX6_lieIn_l4]
  | succ n ih =>
    intro i c i0
    rw [fX3_countIn_l4, fX6_lieIn_l4]
    by_cases q : tC ≤ i
    · rw [if_pos q, if_pos q]
    · rw [if_neg q, if_neg q]
      rw [Int32.le_iff_toInt_le] at q
      obtain ⟨r0, r1, r2, r3, r4, r5, r6, r7, r8⟩ := hT.at i0 (by omega) (by omega)
      have ei : (i + 1).toInt = i.toInt + 1 := y_add (by omega) (by omega) (by decide) (by decide)
      rw [← r1]
      by_cases d : P i.toNatClampNeg = x
      · rw [if_pos d, if_pos d]; exact ih (i + 1) _ (by omega)
      · rw [if_neg d, if_neg d, Int32.add_zero]; exact ih (i + 1) _ (by omega)
theorem y_bit1 (a : Int32) : a &&& 1 = 0 ∨ a &&& 1 = 1 := by
  have e : (a &&& 1).toBitVec.toNat = a.toBitVec.toNat % 2 := by
    rw [Int32.toBitVec_and, BitVec.toNat_and]
    exact Nat.and_one_is_mod _
  have o1 : (1 : Int32).toBitVec.toNat = 1 := rfl
  have o0 : (0 : Int32).toBitVec.toNat = 0 := rfl
  rcases Nat.mod_two_eq_zero_or_one a.toBitVec.toNat with h | h
  · left; exact Int32.toBitVec_inj.mp (BitVec.eq_of_toNat_eq (by omega))
  · right; exact Int32.toBitVec_inj.mp (BitVec.eq_of_toNat_eq (by omega))
