theorem y_b01 (hc : Int32) (L T : Nat → Int32) (c h bg : Int32) : fX4_isDry hc L T c h bg = 0 ∨ fX4_isDry hc L T c h bg = 1 := by
  unfold fX4_isDry
  by_cases a : fX5_isCell c = 0
  · rw [if_pos a]; exact Or.inl rfl
  · rw [if_neg a]
    by_cases b : fX4_levelUnder L c bg < fX4_heightIn hc T h
    · rw [if_pos b]; exact Or.inl rfl
    · rw [if_neg b]; exact Or.inr rfl
theorem y_goes0 (hc bg : Int32) (L T : Nat → Int32) (x3 m w : Int32) (n : Nat) (i a : Int32) : fX6_drifts_l123 hc bg L T x3 m w (n + 1) i 0 a = a := by
  rw [fX6_drifts_l123]
  by_cases q : m ≤ i
  · rw [if_pos q]
  · rw [if_neg q, if_pos rfl]
theorem y_carry {hc : Int32} {L L' T T' : Nat → Int32} {h bg m w : Int32} (hG : RG hc L L' T T') (hc1 : 1 ≤ hc.toInt) (h0 : 0 ≤ (h + 1).toInt) (b0 : -1 ≤ bg.toInt) (b1 : bg.toInt ≤ 7) (w0 : -1 ≤ w.toInt) (w1 : w.toInt ≤ 1) (m1 : m.toInt ≤ 3) : ∀ (n : Nat) (i a : Int32), 0 ≤ i.toInt → m.toInt - i.toInt < n → 0 ≤ a.toInt → a.toInt ≤ 7 → fX4_carried_l6 hc L T w m (h + 1) bg n i a = fX6_drifts_l123 hc bg L' T' h m w n i 1 a := by
  intro n
  induction n with
  | zero => intro i a i0 hm a0 a1; rw [fX4_carried_l6, fX6_drifts_l123]
  | succ n ih =>
    intro i a i0 hm a0 a1
    rw [fX4_carried_l6, fX6_drifts_l123]
    by_cases q : m ≤ i
    · rw [if_pos q, if_pos q]
    · rw [if_neg q, if_neg q, if_neg (by decide : ¬ (1 : Int32) = 0)]
      rw [Int32.le_iff_toInt_le] at q
      have e : (a + w).toInt = a.toInt + w.toInt := by rw [Int32.toInt_add]; simp only [Int.bmod, Nat.reducePow]; omega
      have ei : (i + 1).toInt = i.toInt + 1 := by rw [Int32.toInt_add]; have o : (1 : Int32).toInt = 1 := rfl; rw [o]; simp only [Int.bmod, Nat.reducePow]; omega
      have e7 : (7 : Int32).toInt = 7 := rfl
      have e8 : (8 : Int32).toInt = 8 := rfl
      have e0 : (0 : Int32).toInt = 0 := rfl
      obtain ⟨n', rfl⟩ : ∃ n' : Nat, n = n' + 1 := ⟨n - 1, by omega⟩
      by_cases q1 : a.toInt + w.toInt < 0
      · have p0 : ¬ (0 : Int32) ≤ a + w := by rw [Int32.le_iff_toInt_le, e, e0]; omega
        have p7 : a + w ≤ (7 : Int32) := by rw [Int32.le_iff_toInt_le, e, e7]; omega
        simp only [if_neg p0, if_pos p7]
      · have p0 : (0 : Int32) ≤ a + w := by rw [Int32.le_iff_toInt_le, e, e0]; omega
        by_cases q2 : 7 < a.toInt + w.toInt
        · have p7 : ¬ a + w ≤ (7 : Int32) := by rw [Int32.le_iff_toInt_le, e, e7]; omega
          have p8 : ¬ a + w < (8 : Int32) := by rw [Int32.lt_iff_toInt_lt, e, e8]; omega
          simp only [if_pos p0, if_neg p7, if_neg p8, y_goes0]
        · have p7 : a + w ≤ (7 : Int32) := by rw [Int32.le_iff_toInt_le, e, e7]; omega
          have p8 : a + w < (8 : Int32) := by rw [Int32.lt_iff_toInt_lt, e, e8]; omega
          simp only [if_pos p0, if_pos p7, if_pos p8]
          rw [← y_dry hG hc1 h0 (c := a + w) (by omega) (by omega) b0 b1]
          rcases y_b01 hc L T (a + w) (h + 1) bg with d | d
          · rw [if_pos d, if_pos d]
            exact ih (i + 1) (a + w) (by omega) (by omega) (by omega) (by omega)
          · have d0 : ¬ fX4_isDry hc L T (a + w) (h + 1) bg = 0 := by rw [d]; decide
            rw [if_neg d0, if_neg d0, y_goes0]
theorem y_still (hc bg : Int32) (L T : Nat → Int32) (x2 x3 m : Int32) : fX6_drifts_j103 hc bg L T x2 x3 m 0 = x2 := by
  rw [fX6_drifts_j103, if_pos rfl, fX6_drifts_j118]
  exact y_goes0 hc bg L T x3 m 0 3 0 x2
theorem y_way {hc : Int32} {L L' T T' : Nat → Int32} {h bg m w a : Int32} (hG : RG hc L L' T T') (hc1 : 1 ≤ hc.toInt) (h0 : 0 ≤ (h + 1).toInt) (b0 : -1 ≤ bg.toInt) (b1 : bg.toInt ≤ 7) (w0 : w = 1 ∨ w = -1) (m0 : 0 ≤ m.toInt) (m1 : m.toInt ≤ 3) (a0 : 0 ≤ a.toInt) (a1 : a.toInt ≤ 7) : fX4_carried hc L T a w m (h + 1) bg = fX6_drifts_j103 hc bg L' T' a h m w := by
  have e0 : (0 : Int32).toInt = 0 := rfl
  have wb : -1 ≤ w.toInt ∧ w.toInt ≤ 1 := by rcases w0 with rfl | rfl <;> decide
  rw [fX6_drifts_j103, if_neg (by rcases w0 with rfl | rfl <;> decide), fX6_drifts_j118, fX4_carried]
  exact y_carry hG hc1 h0 b0 b1 wb.1 wb.2 m1 4 0 a (by omega) (by rw [e0]; omega) a0 a1
theorem y_kind {k : Int32} (h0 : 0 ≤ k.toInt) (h1 : k.toInt ≤ 4) : k = 0 ∨ k = 1 ∨ k = 2 ∨ k = 3 ∨ k = 4 := by
  simp only [← Int32.toInt_inj, Int32.reduceToInt]; omega
theorem y_drift {hc : Int32} {L L' T T' : Nat → Int32} {k a h bg : Int32} (hG : RG hc L L' T T') (hc1 : 1 ≤ hc.toInt) (h0 : 0 ≤ h.toInt) (h1 : h.toInt ≤ 1000) (b0 : -1 ≤ bg.toInt) (b1 : bg.toInt ≤ 7) (k0 : 0 ≤ k.toInt) (k1 : k.toInt ≤ 4) (a0 : -2 ≤ a.toInt) (a1 : a.toInt ≤ 7) : fX4_drifted hc L T k a h bg = fX6_drifts hc bg L' T' k a h := by
  have eh : (h + 1).toInt = h.toInt + 1 := by rw [Int32.toInt_add]; have o : (1 : Int32).toInt = 1 := rfl; rw [o]; simp only [Int.bmod, Nat.reducePow]; omega
  have hk : ¬ fX5_isKind k = 0 := by rcases y_kind k0 k1 with rfl | rfl | rfl | rfl | rfl <;> decide
  unfold fX4_drifted fX6_drifts
  rw [if_neg hk]
  by_cases q : a.toInt < 0
  · rw [if_pos (y_cell0 (Or.inl q)), if_pos (by rw [Int32.lt_iff_toInt_lt]; exact q)]
  · have c1 := y_cell1 (c := a) (by omega) a1
    have q' : ¬ a < (0 : Int32) := by rw [Int32.lt_iff_toInt_lt]; exact q
    have c1' : ¬ fX5_isCell a = 0 := by rw [c1]; decide
    rw [if_neg c1', if_neg q']
    rw [← y_dry hG hc1 h0 (c := a) (by omega) a1 b0 b1]
    rcases y_b01 hc L T a h bg with d | d
    · rw [if_pos d, if_pos d]
      rw [← y_height h0 hc1 hG.2, ← y_height (h := h + 1) (by omega) hc1 hG.2]
      have up : ∀ m : Int32, 0 ≤ m.toInt → m.toInt ≤ 3 → fX4_carried hc L T a 1 m (h + 1) bg = fX6_drifts_j103 hc bg L' T' a h m 1 := fun m m0 m1 => y_way hG hc1 (by omega) b0 b1 (Or.inl rfl) m0 m1 (by omega) a1
      have dn : ∀ m : Int32, 0 ≤ m.toInt → m.toInt ≤ 3 → fX4_carried hc L T a (-1) m (h + 1) bg = fX6_drifts_j103 hc bg L' T' a h m (-1) := fun m m0 m1 => y_way hG hc1 (by omega) b0 b1 (Or.inr rfl) m0 m1 (by omega) a1
      have j78 : ∀ m : Int32, fX6_drifts_j78 hc bg L' T' a h m = if fX4_heightIn hc T (h + 1) ≤ fX4_heightIn hc T h then (if fX4_heightIn hc T h ≤ fX4_heightIn hc T (h + 1) then a else fX6_drifts_j103 hc bg L' T' a h m (-1)) else fX6_drifts_j103 hc bg L' T' a h m 1 := by
        intro m
        rw [fX6_drifts_j78, ← y_height h0 hc1 hG.2, ← y_height (h := h + 1) (by omega) hc1 hG.2, y_still]
      simp only [j78]
      by_cases p1 : fX4_heightIn hc T (h + 1) ≤ fX4_heightIn hc T h
      · simp only [if_pos p1]
        by_cases p2 : fX4_heightIn hc T h ≤ fX4_heightIn hc T (h + 1)
        · simp only [if_pos p2, ite_self]
        · simp only [if_neg p2]
          rcases y_kind k0 k1 with rfl | rfl | rfl | rfl | rfl
          · rw [show z_eb (0 : Int32).toNatClampNeg = 1 from by decide, if_pos (rfl : (0 : Int32) = 0)]
            exact dn 1 (by decide) (by decide)
          · rw [show z_eb (1 : Int32).toNatClampNeg = 2 from by decide, if_neg (by decide : ¬ (1 : Int32) = 0), if_pos (rfl : (1 : Int32) = 1)]
            exact dn 2 (by decide) (by decide)
          · rw [show z_eb (2 : Int32).toNatClampNeg = 1 from by decide, if_neg (by decide : ¬ (2 : Int32) = 0), if_neg (by decide : ¬ (2 : Int32) = 1), if_neg (by decide : ¬ (2 : Int32) = 4), if_pos (rfl : (2 : Int32) = 2)]
            exact dn 1 (by decide) (by decide)
          · rw [show z_eb (3 : Int32).toNatClampNeg = 0 from by decide, if_neg (by decide : ¬ (3 : Int32) = 0), if_neg (by decide : ¬ (3 : Int32) = 1), if_neg (by decide : ¬ (3 : Int32) = 4), if_neg (by decide : ¬ (3 : Int32) = 2)]
            exact dn 0 (by decide) (by decide)
          · rw [show z_eb (4 : Int32).toNatClampNeg = 3 from by decide, if_neg (by decide : ¬ (4 : Int32) = 0), if_neg (by decide : ¬ (4 : Int32) = 1), if_pos (rfl : (4 : Int32) = 4)]
            exact dn 3 (by decide) (by decide)
      · simp only [if_neg p1]
        have p2 : fX4_heightIn hc T h ≤ fX4_heightIn hc T (h + 1) := by rw [Int32.le_iff_toInt_le] at p1 ⊢; omega
        simp only [if_pos p2]
        rcases y_kind k0 k1 with rfl | rfl | rfl | rfl | rfl
        · rw [show z_fl (0 : Int32).toNatClampNeg = 1 from by decide, if_pos (rfl : (0 : Int32) = 0)]
          exact up 1 (by decide) (by decide)
        · rw [show z_fl (1 : Int32).toNatClampNeg = 2 from by decide, if_neg (by decide : ¬ (1 : Int32) = 0), if_pos (rfl : (1 : Int32) = 1)]
          exact up 2 (by decide) (by decide)
        · rw [show z_fl (2 : Int32).toNatClampNeg = 0 from by decide, if_neg (by decide : ¬ (2 : Int32) = 0), if_neg (by decide : ¬ (2 : Int32) = 1), if_neg (by decide : ¬ (2 : Int32) = 4), if_pos (rfl : (2 : Int32) = 2)]
          exact up 0 (by decide) (by decide)
        · rw [show z_fl (3 : Int32).toNatClampNeg = 0 from by decide, if_neg (by decide : ¬ (3 : Int32) = 0), if_neg (by decide : ¬ (3 : Int32) = 1), if_neg (by decide : ¬ (3 : Int32) = 4), if_neg (by decide : ¬ (3 : Int32) = 2)]
          exact up 0 (by decide) (by decide)
        · rw [show z_fl (4 : Int32).toNatClampNeg = 3 from by decide, if_neg (by decide : ¬ (4 : Int32) = 0), if_neg (by decide : ¬ (4 : Int32) = 1), if_pos (rfl : (4 : Int32) = 4)]
          exact up 3 (by decide) (by decide)
    · have d0 : ¬ fX4_isDry hc L T a h bg = 0 := by rw [d]; decide
      rw [if_neg d0, if_neg d0]
