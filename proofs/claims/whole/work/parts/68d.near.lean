set_option maxRecDepth 100000 in
set_option maxHeartbeats 4000000 in
theorem y_near_all : ∀ p : Fin 8, ∀ s : Fin 256, fX4_nearestStair (Int32.ofNat s.val) (Int32.ofNat p.val) (-1) = fX6_nearest (Int32.ofNat p.val) (Int32.ofNat s.val) := by decide +kernel
theorem y_near {p s : Int32} (p0 : 0 ≤ p.toInt) (p1 : p.toInt ≤ 7) (s0 : 0 ≤ s.toInt) (s1 : s.toInt ≤ 255) : fX4_nearestStair s p (-1) = fX6_nearest p s := by
  have cp := z_clampN p0
  have cs := z_clampN s0
  have ep : Int32.ofNat p.toNatClampNeg = p := Int32.toInt_inj.mp (by rw [Int32.toInt_ofNat_of_lt (by omega)]; omega)
  have es : Int32.ofNat s.toNatClampNeg = s := Int32.toInt_inj.mp (by rw [Int32.toInt_ofNat_of_lt (by omega)]; omega)
  have h := y_near_all ⟨p.toNatClampNeg, by omega⟩ ⟨s.toNatClampNeg, by omega⟩
  simp only [ep, es] at h
  exact h
