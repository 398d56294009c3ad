theorem y_inz (x : Int32) (a b : Int64) : (fX6_in x.toInt64 a b = 0 ∧ (x.toInt < a.toInt ∨ b.toInt < x.toInt)) ∨ (fX6_in x.toInt64 a b = 1 ∧ a.toInt ≤ x.toInt ∧ x.toInt ≤ b.toInt) := by
  unfold fX6_in
  by_cases c1 : lg_cmp x.toInt64 a < 0
  · left; rw [if_pos c1]; rw [z_cmp0, Int64.lt_iff_toInt_lt, Int32.toInt_toInt64] at c1; exact ⟨rfl, Or.inl c1⟩
  · rw [if_neg c1]; rw [z_cmp0, Int64.lt_iff_toInt_lt, Int32.toInt_toInt64] at c1
    by_cases c2 : 0 < lg_cmp x.toInt64 b
    · left; rw [if_pos c2]; rw [z_cmp1, Int64.lt_iff_toInt_lt, Int32.toInt_toInt64] at c2; exact ⟨rfl, Or.inr c2⟩
    · right; rw [if_neg c2]; rw [z_cmp1, Int64.lt_iff_toInt_lt, Int32.toInt_toInt64] at c2; exact ⟨rfl, by omega, by omega⟩
theorem y_cellz (x : Int32) : (fX5_isCell x = 0 ∧ fX6_isCell x = 0) ∨ (fX5_isCell x = 1 ∧ fX6_isCell x = 1 ∧ 0 ≤ x.toInt ∧ x.toInt ≤ 7) := by
  rcases y_inz x 0 7 with ⟨q, r⟩ | ⟨q, r0, r1⟩
  · have r' : x.toInt < 0 ∨ 7 < x.toInt := r
    exact Or.inl ⟨y_cell0 r', q⟩
  · have r0' : 0 ≤ x.toInt := r0
    have r1' : x.toInt ≤ 7 := r1
    exact Or.inr ⟨y_cell1 r0' r1', q, r0', r1'⟩
theorem y_has {sR hc tC mC st : Int32} (h : (sR = 0 ∧ hc = 0 ∧ tC = 0 ∧ mC = 0 ∧ st = 0) ∨ (1 ≤ sR.toInt ∧ 2 ≤ hc.toInt)) : (fX5_hasShore sR = 0 ∧ fX6_lacks hc = 1 ∧ sR = 0 ∧ hc = 0 ∧ tC = 0 ∧ mC = 0 ∧ st = 0) ∨ (fX5_hasShore sR = 1 ∧ fX6_lacks hc = 0 ∧ 1 ≤ sR.toInt ∧ 2 ≤ hc.toInt) := by
  rcases h with h | ⟨h1, h2⟩
  · left
    refine ⟨?_, ?_, h⟩
    · rw [h.1]; decide
    · rw [h.2.1]; decide
  · right
    refine ⟨?_, ?_, h1, h2⟩
    · unfold fX5_hasShore
      rw [if_neg (by rw [Int32.le_iff_toInt_le]; show ¬ _ ≤ (0 : Int); omega)]
    · unfold fX6_lacks
      rw [if_neg (by intro q; rw [q] at h2; exact absurd h2 (by decide))]
theorem y_add {a b : Int32} (h0 : -1000000 ≤ a.toInt) (h1 : a.toInt ≤ 1000000) (h2 : -1000000 ≤ b.toInt) (h3 : b.toInt ≤ 1000000) : (a + b).toInt = a.toInt + b.toInt := by
  rw [Int32.toInt_add]; simp only [Int.bmod, Nat.reducePow]; omega
theorem RM.one {c : Int32} {M N : Nat → Int32} (h0 : -2 ≤ c.toInt) (h1 : c.toInt ≤ 7) : RM 1 (upd M 0 c) (upd N 0 c) := by
  intro j hj
  have e : (1 : Int32).toInt = 1 := rfl
  rw [e] at hj
  have j0 : j = 0 := by omega
  subst j0
  exact ⟨rfl, h0, h1⟩
theorem RM.push {n c : Int32} {M N : Nat → Int32} (h : RM n M N) (n0 : 0 ≤ n.toInt) (n1 : n.toInt ≤ 8) (h0 : -2 ≤ c.toInt) (h1 : c.toInt ≤ 7) : RM (n + 1) (upd M n.toNatClampNeg c) (upd N n.toNatClampNeg c) := by
  intro j hj
  have e : (n + 1).toInt = n.toInt + 1 := y_add (by omega) (by omega) (by decide) (by decide)
  have k := z_clampN n0
  unfold upd
  by_cases q : j = n.toNatClampNeg
  · rw [if_pos q, if_pos q]; exact ⟨rfl, h0, h1⟩
  · rw [if_neg q, if_neg q]; exact h j (by omega)
