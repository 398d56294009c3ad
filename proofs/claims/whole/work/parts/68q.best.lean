theorem y_jmax (x y : Int32) : (jmax x y).toInt = max x.toInt y.toInt := by
  unfold jmax
  by_cases q : x < y
  · rw [if_pos q]
    rw [Int32.lt_iff_toInt_lt] at q
    omega
  · rw [if_neg q]
    rw [Int32.lt_iff_toInt_lt] at q
    omega
theorem y_jm (m x : Int32) : (if x ≤ m then m else x) = jmax m x := by
  apply Int32.toInt_inj.mp
  rw [y_jmax]
  by_cases q : x ≤ m
  · rw [if_pos q]
    rw [Int32.le_iff_toInt_le] at q
    omega
  · rw [if_neg q]
    rw [Int32.le_iff_toInt_le] at q
    omega
theorem y_jm1 {m : Int32} (h : -1 ≤ m.toInt) : jmax m (-1) = m := by
  apply Int32.toInt_inj.mp
  rw [y_jmax]
  have n1 : (-1 : Int32).toInt = -1 := rfl
  rw [n1]
  omega
theorem y_jm4 {m a b c : Int32} (h : -1 ≤ m.toInt) : jmax (jmax (jmax m a) b) c = jmax m (jmax (jmax (jmax (-1) a) b) c) := by
  apply Int32.toInt_inj.mp
  have n1 : (-1 : Int32).toInt = -1 := rfl
  simp only [y_jmax, n1]
  omega
def y_mx (f : Nat → Int32) : Nat → Nat → Int32 → Int32
  | 0, _, m => m
  | n + 1, a, m => y_mx f n (a + 1) (if f a ≤ m then m else f a)
theorem y_mx_split (f : Nat → Int32) (n2 : Nat) : ∀ (n1 a : Nat) (m : Int32), y_mx f (n1 + n2) a m = y_mx f n2 (a + n1) (y_mx f n1 a m) := by
  intro n1
  induction n1 with
  | zero => intro a m; rw [Nat.zero_add, Nat.add_zero, y_mx]
  | succ n1 ih =>
    intro a m
    rw [show n1 + 1 + n2 = (n1 + n2) + 1 from by omega, y_mx, y_mx, ih, show a + 1 + n1 = a + (n1 + 1) from by omega]
theorem y_mx_congr {f g : Nat → Int32} : ∀ (n a : Nat) (m : Int32), (∀ i : Nat, i < n → f (a + i) = g (a + i)) → y_mx f n a m = y_mx g n a m := by
  intro n
  induction n with
  | zero => intro a m h; rfl
  | succ n ih =>
    intro a m h
    have h0 := h 0 (by omega)
    rw [Nat.add_zero] at h0
    rw [y_mx, y_mx, h0]
    refine ih (a + 1) _ ?_
    intro i hi
    have h1 := h (i + 1) (by omega)
    rw [show a + 1 + i = a + (i + 1) from by omega]
    exact h1
theorem y_mx_le (f : Nat → Int32) : ∀ (n a : Nat) (m : Int32), m.toInt ≤ (y_mx f n a m).toInt := by
  intro n
  induction n with
  | zero => intro a m; rw [y_mx]; omega
  | succ n ih =>
    intro a m
    rw [y_mx]
    have h := ih (a + 1) (if f a ≤ m then m else f a)
    rw [y_jm] at h ⊢
    rw [y_jmax] at h
    omega
theorem y_mx_dead {f : Nat → Int32} : ∀ (n a : Nat) (m : Int32), -1 ≤ m.toInt → (∀ i : Nat, i < n → f (a + i) = -1) → y_mx f n a m = m := by
  intro n
  induction n with
  | zero => intro a m hm h; rfl
  | succ n ih =>
    intro a m hm h
    have h0 := h 0 (by omega)
    rw [Nat.add_zero] at h0
    rw [y_mx, h0, y_jm, y_jm1 hm]
    refine ih (a + 1) m hm ?_
    intro i hi
    rw [show a + 1 + i = a + (i + 1) from by omega]
    exact h (i + 1) (by omega)
def y_V (dry lying stairs worths : Nat → Int32) : Nat → Int32 → Int32 → Int32 → Nat → Int32
  | 0, k, a, T, _ => if fX5_isCell a = 0 then -1 else if dry ((k * 8) + a).toNatClampNeg = 0 then -1 else if stairs a.toNatClampNeg = 0 then -1 else fX0_worthOf worths (T ||| lying ((k * 8) + a).toNatClampNeg)
  | r + 1, k, a, T, code => if fX5_isCell a = 0 then -1 else if dry ((k * 8) + a).toNatClampNeg = 0 then -1 else y_V dry lying stairs worths r (k + 1) (a + (Int32.ofNat (code / 3 ^ r % 3) - 1)) (T ||| lying ((k * 8) + a).toNatClampNeg) code
theorem y_d3 {p d r i : Nat} (hd : d < 3) (hi : i < 3 ^ r) : ((3 * p + d) * 3 ^ r + i) / 3 ^ r % 3 = d := by
  have hp : 0 < 3 ^ r := Nat.pow_pos (by decide)
  rw [Nat.mul_comm, Nat.mul_add_div hp, Nat.div_eq_of_lt hi]
  omega
theorem y_dd (a : Int32) : a + (Int32.ofNat 0 - 1) = a - 1 ∧ a + (Int32.ofNat 1 - 1) = a ∧ a + (Int32.ofNat 2 - 1) = a + 1 := by
  refine ⟨?_, ?_, ?_⟩
  · rw [Int32.sub_eq_add_neg a 1]; rfl
  · rw [show Int32.ofNat 1 - 1 = 0 from by decide, Int32.add_zero]
  · rw [show Int32.ofNat 2 - 1 = 1 from by decide]
theorem y_walk {h : Int32} {dry lying stairs worths : Nat → Int32} (h7 : h.toInt ≤ 7) : ∀ (r d : Nat) (k a T : Int32) (p : Nat) (m : Int32), r < d → 0 ≤ k.toInt → k.toInt + r = h.toInt → -1 ≤ a.toInt → a.toInt ≤ 8 → -1 ≤ m.toInt → y_mx (y_V dry lying stairs worths r k a T) (3 ^ r) (p * 3 ^ r) m = jmax m (fX0_walked h lying dry stairs worths d k a T) := by
  intro r
  have e0 : (0 : Int32).toInt = 0 := rfl
  have e1 : (1 : Int32).toInt = 1 := rfl
  induction r with
  | zero =>
    intro d k a T p m hd k0 kr a0 a8 hm
    obtain ⟨d, rfl⟩ : ∃ d' : Nat, d = d' + 1 := ⟨d - 1, by omega⟩
    have ek : k = h := Int32.toInt_inj.mp (by omega)
    have n1 : ¬ k < 0 := by rw [Int32.lt_iff_toInt_lt, e0]; omega
    have n2 : ¬ h < k := by rw [Int32.lt_iff_toInt_lt]; omega
    rw [Nat.pow_zero, Nat.mul_one, y_mx, y_mx, y_jm, y_V, fX0_walked]
    dsimp only
    unfold gX0_walked
    rw [if_neg n1, if_neg n2, if_pos ek]
  | succ r ih =>
    intro d k a T p m hd k0 kr a0 a8 hm
    obtain ⟨d, rfl⟩ : ∃ d' : Nat, d = d' + 1 := ⟨d - 1, by omega⟩
    have ek : ¬ k = h := by intro e; rw [e] at kr; omega
    have n1 : ¬ k < 0 := by rw [Int32.lt_iff_toInt_lt, e0]; omega
    have n2 : ¬ h < k := by rw [Int32.lt_iff_toInt_lt]; omega
    have ek1 : (k + 1).toInt = k.toInt + 1 := y_add (by omega) (by omega) (by decide) (by decide)
    rw [fX0_walked]
    dsimp only
    unfold gX0_walked
    rw [if_neg n1, if_neg n2, if_neg ek]
    by_cases c1 : fX5_isCell a = 0
    · rw [if_pos c1, y_jm1 hm]
      refine y_mx_dead _ _ _ hm ?_
      intro i hi
      rw [y_V, if_pos c1]
    · by_cases c2 : dry ((k * 8) + a).toNatClampNeg = 0
      · rw [if_neg c1, if_pos c2, y_jm1 hm]
        refine y_mx_dead _ _ _ hm ?_
        intro i hi
        rw [y_V, if_neg c1, if_pos c2]
      · rw [if_neg c1, if_neg c2]
        have ac : 0 ≤ a.toInt ∧ a.toInt ≤ 7 := by
          rcases y_cellz a with ⟨i1, _⟩ | ⟨_, _, i3, i4⟩
          · exact absurd i1 c1
          · exact ⟨i3, i4⟩
        have ea : (a + 1).toInt = a.toInt + 1 := y_add (by omega) (by omega) (by decide) (by decide)
        have em : (a - 1).toInt = a.toInt - 1 := by rw [Int32.toInt_sub, e1]; simp only [Int.bmod, Nat.reducePow]; omega
        have s1 : a - 1 + 1 = a := Int32.sub_add_cancel a 1
        have ea2 : (a + 1 + 1).toInt = a.toInt + 2 := by rw [y_add (by omega) (by omega) (by decide) (by decide), ea, e1]; omega
        obtain ⟨g0, g1, g2⟩ := y_dd a
        have sub : ∀ (dg : Nat) (m' : Int32), dg < 3 → -1 ≤ m'.toInt → -1 ≤ (a + (Int32.ofNat dg - 1)).toInt → (a + (Int32.ofNat dg - 1)).toInt ≤ 8 → y_mx (y_V dry lying stairs worths (r + 1) k a T) (3 ^ r) ((3 * p + dg) * 3 ^ r) m' = jmax m' (fX0_walked h lying dry stairs worths d (k + 1) (a + (Int32.ofNat dg - 1)) (T ||| lying ((k * 8) + a).toNatClampNeg)) := by
          intro dg m' hdg hm' q0 q1
          rw [← ih d (k + 1) (a + (Int32.ofNat dg - 1)) (T ||| lying ((k * 8) + a).toNatClampNeg) (3 * p + dg) m' (by omega) (by omega) (by omega) q0 q1 hm']
          refine y_mx_congr _ _ _ ?_
          intro i hi
          rw [y_V, if_neg c1, if_neg c2, y_d3 hdg hi]
        have hs : 3 ^ (r + 1) = 3 ^ r + (3 ^ r + 3 ^ r) := by rw [Nat.pow_succ]; omega
        have hp0 : p * 3 ^ (r + 1) = (3 * p + 0) * 3 ^ r := by rw [Nat.pow_succ, Nat.add_zero, Nat.mul_comm 3 p, Nat.mul_assoc p 3, Nat.mul_comm 3 (3 ^ r)]
        have hp1 : (3 * p + 0) * 3 ^ r + 3 ^ r = (3 * p + 1) * 3 ^ r := by rw [Nat.add_zero, Nat.add_mul, Nat.one_mul]
        have hp2 : (3 * p + 1) * 3 ^ r + 3 ^ r = (3 * p + 2) * 3 ^ r := by rw [Nat.add_mul, Nat.add_mul, Nat.one_mul]; omega
        have mm : ∀ x y : Int32, -1 ≤ x.toInt → -1 ≤ (jmax x y).toInt := by intro x y hx; rw [y_jmax]; omega
        rw [hp0, hs, y_mx_split, y_mx_split, hp1, hp2]
        rw [sub 0 m (by decide) hm (by rw [g0]; omega) (by rw [g0]; omega), sub 1 _ (by decide) (mm _ _ hm) (by rw [g1]; omega) (by rw [g1]; omega), sub 2 _ (by decide) (mm _ _ (mm _ _ hm)) (by rw [g2]; omega) (by rw [g2]; omega), g0, g1, g2, y_jm4 hm]
        unfold fX0_walked_x86
        rw [fX0_walked_l86, if_neg (by rw [Int32.lt_iff_toInt_lt]; omega), s1, fX0_walked_l86, if_neg (by rw [Int32.lt_iff_toInt_lt]; omega), fX0_walked_l86, if_neg (by rw [Int32.lt_iff_toInt_lt]; omega), fX0_walked_l86, if_pos (by rw [Int32.lt_iff_toInt_lt]; omega)]
