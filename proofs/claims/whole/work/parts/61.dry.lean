/-! dry cells, and where one drifts: alike on both sides -/
theorem y_cell1 {c : Int32} (h0 : 0 ≤ c.toInt) (h1 : c.toInt ≤ 7) : fX5_isCell c = 1 := by
  unfold fX5_isCell
  rw [if_neg (by rw [Int32.lt_iff_toInt_lt]; show ¬ _ < (0 : Int); omega), if_neg (by rw [Int32.le_iff_toInt_le]; show ¬ (8 : Int) ≤ _; omega)]
theorem y_cell0 {c : Int32} (h : c.toInt < 0 ∨ 7 < c.toInt) : fX5_isCell c = 0 := by
  unfold fX5_isCell
  by_cases q : c < 0
  · rw [if_pos q]
  · rw [if_neg q]
    rw [Int32.lt_iff_toInt_lt] at q
    have q' : ¬ c.toInt < 0 := q
    rw [if_pos (by rw [Int32.le_iff_toInt_le]; show (8 : Int) ≤ _; omega)]
theorem y_fm {h hc : Int32} (h0 : 0 ≤ h.toInt) (h1 : 1 ≤ hc.toInt) : fJ9_floorMod_7cf53 h hc = jrem h hc := by
  have hp : (0 : Int32) < hc := by rw [Int32.lt_iff_toInt_lt]; show (0 : Int) < _; omega
  have b := zJ9_floorMod_7cf53 h hc hp
  have r := z_jrem h hc (by rw [Int32.le_iff_toInt_le]; exact h0) hp
  unfold fJ9_floorMod_7cf53 at b ⊢
  split at b
  · rename_i c; rw [if_pos c]
  · rename_i c
    rw [if_neg c]
    split at b
    · rename_i c2; rw [if_pos c2]
    · exfalso
      have b2 := b.2
      rw [Int32.lt_iff_toInt_lt, Int32.toInt_add] at b2
      have m := Int32.toInt_lt hc
      simp only [Int.bmod, Nat.reducePow] at b2
      have b1 := b.1
      rw [Int32.le_iff_toInt_le, Int32.toInt_add] at b1
      have e0 : (0 : Int32).toInt = 0 := rfl
      rw [e0] at b1
      simp only [Int.bmod, Nat.reducePow] at b1
      omega
theorem y_height {h hc : Int32} {T T' : Nat → Int32} (h0 : 0 ≤ h.toInt) (h1 : 1 ≤ hc.toInt) (hT : ∀ j : Nat, (j : Int) < hc.toInt → T j = T' j) : fX4_heightIn hc T h = fX6_heightAt hc T' h := by
  have hp : (0 : Int32) < hc := by rw [Int32.lt_iff_toInt_lt]; show (0 : Int) < _; omega
  have r := z_jrem h hc (by rw [Int32.le_iff_toInt_le]; exact h0) hp
  unfold fX4_heightIn fX6_heightAt
  rw [if_pos hp, y_fm h0 h1]
  have c := z_clampN r.1
  exact hT _ (by omega)
theorem y_sub {l z : Int32} (h0 : 0 ≤ l.toInt) (h1 : l.toInt ≤ 9) (z0 : 0 ≤ z.toInt) (z1 : z.toInt ≤ 2) : jmax (0 : Int32) (l - z) = if l ≤ z then (0 : Int32) else l - z := by
  have e : (l - z).toInt = l.toInt - z.toInt := by rw [Int32.toInt_sub]; simp only [Int.bmod, Nat.reducePow]; omega
  unfold jmax
  by_cases q : l ≤ z
  · rw [if_pos q]
    rw [Int32.le_iff_toInt_le] at q
    rw [if_neg (by rw [Int32.lt_iff_toInt_lt, e]; show ¬ (0 : Int) < _; omega)]
  · rw [if_neg q]
    rw [Int32.le_iff_toInt_le] at q
    rw [if_pos (by rw [Int32.lt_iff_toInt_lt, e]; show (0 : Int) < _; omega)]
theorem y_level {L L' : Nat → Int32} {c bg : Int32} (hL : ∀ j : Nat, j < 8 → L j = L' j ∧ 0 ≤ (L j).toInt ∧ (L j).toInt ≤ 9) (c0 : 0 ≤ c.toInt) (c1 : c.toInt ≤ 7) (b0 : -1 ≤ bg.toInt) (b1 : bg.toInt ≤ 7) : fX4_levelUnder L c bg = fX6_levelOf L' c bg := by
  have k := z_clampN c0
  obtain ⟨e, l0, l1⟩ := hL c.toNatClampNeg (by omega)
  unfold fX4_levelUnder fX6_levelOf fX4_levelUnder_j29 fX6_levelOf_j37
  rw [← e, y_sub l0 l1 (by decide) (by decide), y_sub l0 l1 (by decide) (by decide), y_sub l0 l1 (by decide) (by decide)]
  have n1 : (-1 : Int32).toInt = -1 := rfl
  have o1 : (1 : Int32).toInt = 1 := rfl
  have s1 : (bg - 1).toInt = bg.toInt - 1 := by rw [Int32.toInt_sub, o1]; simp only [Int.bmod, Nat.reducePow]; omega
  have s2 : (bg + 1).toInt = bg.toInt + 1 := by rw [Int32.toInt_add, o1]; simp only [Int.bmod, Nat.reducePow]; omega
  have s3 : (bg - c).toInt = bg.toInt - c.toInt := by rw [Int32.toInt_sub]; simp only [Int.bmod, Nat.reducePow]; omega
  have s4 : (0 - (bg - c)).toInt = c.toInt - bg.toInt := by rw [Int32.toInt_sub, s3]; have e0 : (0 : Int32).toInt = 0 := rfl; rw [e0]; simp only [Int.bmod, Nat.reducePow]; omega
  have a : jabs (bg - c) = 1 ↔ (c = bg - 1 ∨ c = bg + 1) := by
    unfold jabs
    simp only [← Int32.toInt_inj, s1, s2]
    by_cases q : (0 : Int32) ≤ bg - c
    · rw [if_pos q, s3, o1]; rw [Int32.le_iff_toInt_le, s3] at q; have q' : (0 : Int) ≤ bg.toInt - c.toInt := q; omega
    · rw [if_neg q, s4, o1]; rw [Int32.le_iff_toInt_le, s3] at q; have q' : ¬ (0 : Int) ≤ bg.toInt - c.toInt := q; omega
  by_cases q1 : bg = -1
  · subst q1
    rw [if_neg (by intro q; rw [← q, n1] at c0; omega), if_pos rfl, if_pos rfl]
  · rw [if_neg q1, if_neg q1]
    by_cases q2 : bg = c
    · rw [if_pos q2, if_pos q2.symm]
    · rw [if_neg q2, if_neg (fun q : c = bg => q2 q.symm)]
      by_cases q3 : c = bg - 1
      · rw [if_pos (a.mpr (Or.inl q3)), if_pos q3]
      · rw [if_neg q3]
        by_cases q4 : c = bg + 1
        · rw [if_pos (a.mpr (Or.inr q4)), if_pos q4]
        · rw [if_neg (fun q => (a.mp q).elim q3 q4), if_neg q4]
theorem y_dry {hc : Int32} {L L' T T' : Nat → Int32} {c h bg : Int32} (hG : RG hc L L' T T') (hc1 : 1 ≤ hc.toInt) (h0 : 0 ≤ h.toInt) (c0 : 0 ≤ c.toInt) (c1 : c.toInt ≤ 7) (b0 : -1 ≤ bg.toInt) (b1 : bg.toInt ≤ 7) : fX4_isDry hc L T c h bg = fX6_isDry hc L' T' c h bg := by
  unfold fX4_isDry fX6_isDry
  rw [y_cell1 c0 c1, if_neg (by decide), y_level hG.1 c0 c1 b0 b1, y_height h0 hc1 hG.2]
