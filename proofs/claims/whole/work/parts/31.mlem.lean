/-! what the reference's drift comes to is at most 7; a masked number isn't below 0 -/
theorem z_ite {c : Prop} [Decidable c] {a b x : Int32} (ha : a ≤ x) (hb : b ≤ x) : (if c then a else b) ≤ x := by
  by_cases h : c
  · rw [if_pos h]; exact ha
  · rw [if_neg h]; exact hb
theorem z_itec {c : Prop} [Decidable c] {a b x : Int32} (ha : c → a ≤ x) (hb : ¬ c → b ≤ x) : (if c then a else b) ≤ x := by
  by_cases h : c
  · rw [if_pos h]; exact ha h
  · rw [if_neg h]; exact hb h
theorem zX6_drifts_l (heightMany bargeAt : Int32) (levels heights : Nat → Int32) (x3 m w : Int32) : ∀ (n : Nat) (k g a : Int32), a ≤ 7 → fX6_drifts_l123 heightMany bargeAt levels heights x3 m w n k g a ≤ 7 := by
  intro n
  induction n with
  | zero => intro k g a _; rw [fX6_drifts_l123]; decide
  | succ n ih =>
    intro k g a h; rw [fX6_drifts_l123]
    exact z_ite h (z_ite h (z_itec (fun c => z_ite (z_ite (ih _ _ _ c) (ih _ _ _ c)) (by decide)) (fun _ => ih _ _ _ h)))
theorem zX6_drifts_103 (heightMany bargeAt : Int32) (levels heights : Nat → Int32) (x2 x3 m w : Int32) (h : x2 ≤ 7) : fX6_drifts_j103 heightMany bargeAt levels heights x2 x3 m w ≤ 7 := by
  rw [fX6_drifts_j103]
  exact z_ite (zX6_drifts_l _ _ _ _ _ _ _ _ _ _ _ h) (zX6_drifts_l _ _ _ _ _ _ _ _ _ _ _ h)
theorem zX6_drifts_78 (heightMany bargeAt : Int32) (levels heights : Nat → Int32) (x2 x3 m : Int32) (h : x2 ≤ 7) : fX6_drifts_j78 heightMany bargeAt levels heights x2 x3 m ≤ 7 := by
  rw [fX6_drifts_j78]
  exact z_ite (z_ite (zX6_drifts_103 _ _ _ _ _ _ _ _ h) (zX6_drifts_103 _ _ _ _ _ _ _ _ h)) (zX6_drifts_103 _ _ _ _ _ _ _ _ h)
theorem zX6_drifts (heightMany bargeAt : Int32) (levels heights : Nat → Int32) (x1 x2 x3 : Int32) : x2 ≤ 7 → fX6_drifts heightMany bargeAt levels heights x1 x2 x3 ≤ 7 := by
  intro h
  have q := fun m => zX6_drifts_78 heightMany bargeAt levels heights x2 x3 m h
  rw [fX6_drifts]
  exact z_ite h (z_ite (z_ite (q _) (z_ite (q _) (z_ite (q _) (z_ite (z_ite (q _) (q _)) (q _))))) h)
theorem z_mask31 (v : Int64) : 0 ≤ ((v &&& 2147483647).toInt32).toInt := by
  have h : (v &&& 2147483647).toInt32.toInt = (v &&& 2147483647).toInt.bmod (2 ^ 32) := Int64.toInt_toInt32 _
  have b : (v &&& 2147483647).toBitVec.toNat ≤ 2147483647 := by
    rw [Int64.toBitVec_and, BitVec.toNat_and]; exact Nat.and_le_right
  have e : (v &&& 2147483647).toInt = ((v &&& 2147483647).toBitVec.toNat : Int) := by
    show (v &&& 2147483647).toBitVec.toInt = _
    rw [BitVec.toInt_eq_toNat_of_lt (by omega)]
  rw [h, e]
  simp only [Int.bmod, Nat.reducePow]
  omega
theorem z_d3 (u : Int32) (h : 1 ≤ u) : 0 ≤ (u / 3).toInt := by
  have q := z_div3 u h
  rw [Int32.le_iff_toInt_le] at h
  have h' : 1 ≤ u.toInt := h
  omega
theorem z_d3b (u : Int32) (h : 3 ≤ u) : 1 ≤ (u / 3).toInt := by
  rw [Int32.le_iff_toInt_le] at h
  have h' : 3 ≤ u.toInt := h
  have q := z_divN u 3 (by omega) (by decide)
  have e : (3 : Int32).toInt = 3 := rfl
  rw [e] at q
  omega
theorem z_d4 (u : Int32) (h : 0 ≤ u) : (u / 4).toInt = u.toInt / 4 := z_div4 u h
theorem z_zero1 (x : Int32) : (8 : Int32) * (0 : Int32) + x = x := by rw [Int32.mul_zero, Int32.zero_add]
