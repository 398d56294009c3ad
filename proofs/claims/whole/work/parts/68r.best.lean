theorem y_ix2 {k c : Int32} (k0 : 0 ≤ k.toInt) (k7 : k.toInt ≤ 7) (c0 : 0 ≤ c.toInt) (c7 : c.toInt ≤ 7) : ((k * 8) + c).toNatClampNeg = 8 * k.toNatClampNeg + c.toNatClampNeg := by
  have e8 : (8 : Int32).toInt = 8 := rfl
  have m8 : (k * 8).toInt = 8 * k.toInt := by rw [Int32.toInt_mul, e8]; simp only [Int.bmod, Nat.reducePow]; omega
  have a1 : ((k * 8) + c).toInt = 8 * k.toInt + c.toInt := by rw [y_add (by omega) (by omega) (by omega) (by omega), m8]
  have ck := z_clampN k0
  have cc := z_clampN c0
  have c1 := z_clampN (x := (k * 8) + c) (by omega)
  omega
theorem y_dig {cd r : Nat} {u : Int32} (hc : cd ≤ 100000) (hu : u.toInt = ((3 ^ r : Nat) : Int)) : jrem (Int32.ofNat cd / u) 3 = Int32.ofNat (cd / 3 ^ r % 3) := by
  have e3 : (3 : Int32).toInt = 3 := rfl
  have hp : 0 < 3 ^ r := Nat.pow_pos (by decide)
  have ec : (Int32.ofNat cd).toInt = cd := Int32.toInt_ofNat_of_lt (by omega)
  have d1 := z_divN (Int32.ofNat cd) u (by omega) (by rw [hu]; omega)
  rw [ec, hu] at d1
  have d2 : (Int32.ofNat cd / u).toInt = ((cd / 3 ^ r : Nat) : Int) := by rw [d1]; exact (Int.natCast_ediv cd (3 ^ r)).symm
  have zl : cd / 3 ^ r ≤ 100000 := Nat.le_trans (Nat.div_le_self _ _) hc
  generalize cd / 3 ^ r = z at d2 zl ⊢
  apply Int32.toInt_inj.mp
  rw [z_remN _ _ (by rw [d2]; omega) (by decide), d2, e3, Int32.toInt_ofNat_of_lt (by omega)]
  omega
theorem y_w0l (V : Nat → Int32) : ∀ (n : Nat) (i a : Int32), 0 ≤ i.toInt → i.toInt ≤ 8 → 8 - i.toInt < n → fX0_worthOf_l4 V 0 n i a = a := by
  intro n
  induction n with
  | zero => intro i a i0 i8 hf; exfalso; omega
  | succ n ih =>
    intro i a i0 i8 hf
    rw [fX0_worthOf_l4]
    have e8 : (8 : Int32).toInt = 8 := rfl
    by_cases q : (8 : Int32) ≤ i
    · rw [if_pos q]
    · rw [if_neg q]
      rw [Int32.le_iff_toInt_le, e8] at q
      have ei : (i + 1).toInt = i.toInt + 1 := y_add (by omega) (by omega) (by decide) (by decide)
      have z : ¬ jshr 0 i &&& 1 = 1 := by
        have all : ∀ p : Fin 8, ¬ jshr 0 (Int32.ofNat p.val) &&& 1 = 1 := by decide +kernel
        have ci := z_clampN i0
        have h := all ⟨i.toNatClampNeg, by omega⟩
        simp only [y_ofN i0] at h
        exact h
      rw [if_neg z]
      exact ih (i + 1) a (by omega) (by omega) (by omega)
theorem y_way1 {hc bg hr tC st h c0 : Int32} {L L' T T' K P0 V rows lies dry lying stairs : Nat → Int32} {cd : Nat} (hG : RG hc L L' T T') (hc1 : 1 ≤ hc.toInt) (h00 : 0 ≤ hr.toInt) (h01 : hr.toInt ≤ 512) (b0 : -1 ≤ bg.toInt) (b1 : bg.toInt ≤ 7) (t0 : 0 ≤ tC.toInt) (t8 : tC.toInt ≤ 8) (hT : RT tC K P0 V rows) (h7 : h.toInt ≤ 7) (hcd : cd ≤ 100000)
    (hD : ∀ kk : Nat, (kk : Int) ≤ h.toInt → ∀ c : Nat, c < 8 → lying (8 * kk + c) = y_msk (y_pl hc bg hr L' T' rows kk) (Int32.ofNat c) tC.toNatClampNeg ∧ dry (8 * kk + c) = fX4_isDry hc L T (Int32.ofNat c) (hr + Int32.ofNat kk) bg)
    (hS : ∀ c : Nat, c < 8 → stairs c = jshr st (Int32.ofNat c) &&& 1)
    (hL : ∀ u : Nat, (u : Int) < tC.toInt → ∀ kk : Nat, (kk : Int) ≤ h.toInt → lies (8 * kk + u) = y_pl hc bg hr L' T' rows kk u) :
    ∀ (r n : Nat) (k S a u : Int32), r + 2 ≤ n → 1 ≤ k.toInt → k.toInt + r = h.toInt → 0 ≤ S.toInt → S.toInt ≤ 255 → 0 ≤ a.toInt → a.toInt ≤ 7 → u.toInt = ((3 ^ r : Nat) : Int) →
    fX6_worthOf_x52 st c0 (fX6_worthOf_l52 hc hr bg tC L' T' rows lies h (Int32.ofNat cd) n k 1 (fX0_worthOf V S) S u a).1 (fX6_worthOf_l52 hc hr bg tC L' T' rows lies h (Int32.ofNat cd) n k 1 (fX0_worthOf V S) S u a).2.1 (fX6_worthOf_l52 hc hr bg tC L' T' rows lies h (Int32.ofNat cd) n k 1 (fX0_worthOf V S) S u a).2.2 = if jshr st c0 &&& 1 = 1 then y_V dry lying stairs V r k (a + (Int32.ofNat (cd / 3 ^ r % 3) - 1)) S cd else -1 := by
  intro r
  have e0 : (0 : Int32).toInt = 0 := rfl
  have e1 : (1 : Int32).toInt = 1 := rfl
  have e3 : (3 : Int32).toInt = 3 := rfl
  have n10 : ¬ (1 : Int32) = 0 := by decide
  induction r with
  | zero =>
    intro n k S a u hn k1 kr s0 s1 a0 a7 hu
    obtain ⟨n, rfl⟩ : ∃ n' : Nat, n = n' + 1 + 1 := ⟨n - 2, by omega⟩
    have u1 : u = 1 := Int32.toInt_inj.mp (by rw [hu]; rfl)
    have hd := y_dig hcd hu
    have hdl : cd / 3 ^ 0 % 3 < 3 := Nat.mod_lt _ (by decide)
    generalize cd / 3 ^ 0 % 3 = dg at hd hdl ⊢
    have ek1 : (k + 1).toInt = k.toInt + 1 := y_add (by omega) (by omega) (by decide) (by decide)
    have edg : (Int32.ofNat dg).toInt = dg := Int32.toInt_ofNat_of_lt (by omega)
    have ed1 : (Int32.ofNat dg - 1).toInt = dg - 1 := by rw [Int32.toInt_sub, edg, e1]; simp only [Int.bmod, Nat.reducePow]; omega
    have et : (a + (Int32.ofNat dg - 1)).toInt = a.toInt + dg - 1 := by rw [y_add (by omega) (by omega) (by omega) (by omega), ed1]; omega
    rw [fX6_worthOf_l52, if_neg (by rw [Int32.lt_iff_toInt_lt]; omega), if_neg n10, if_neg (by rw [Int32.le_iff_toInt_le, e0]; omega), u1, if_pos (by decide)]
    rw [u1] at hd
    unfold fX6_worthOf_j98l52
    rw [hd]
    generalize a + (Int32.ofNat dg - 1) = to at et ⊢
    unfold fX6_worthOf_j135l52 fX6_worthOf_x138l52
    dsimp only
    rw [y_V]
    rcases y_cellz to with ⟨i1, i2⟩ | ⟨i1, i2, i3, i4⟩
    · rw [if_pos i1, if_pos i2, fX6_worthOf_l52, if_pos (by rw [Int32.lt_iff_toInt_lt]; omega), ite_self]
      unfold fX6_worthOf_x52
      rw [if_pos rfl]
    · rw [if_neg (show ¬ fX5_isCell to = 0 by rw [i1]; decide), if_neg (show ¬ fX6_isCell to = 0 by rw [i2]; decide)]
      have ck := z_clampN (x := k) (by omega)
      have ct := z_clampN i3
      obtain ⟨l1, d1⟩ := hD k.toNatClampNeg (by omega) to.toNatClampNeg (by omega)
      rw [y_ofN i3] at l1 d1
      rw [y_ofN (by omega : 0 ≤ k.toInt)] at d1
      have hk : (hr + k).toInt = hr.toInt + k.toInt := y_add (by omega) (by omega) (by omega) (by omega)
      rw [y_ix2 (by omega) (by omega) i3 i4, l1, d1, ← y_dry hG hc1 (h := hr + k) (by omega) i3 i4 b0 b1]
      by_cases z : fX4_isDry hc L T to (hr + k) bg = 0
      · rw [if_pos z, if_pos z, fX6_worthOf_l52, if_pos (by rw [Int32.lt_iff_toInt_lt]; omega), ite_self]
        unfold fX6_worthOf_x52
        rw [if_pos rfl]
      · rw [if_neg z, if_neg z]
        obtain ⟨g1, g2, g3⟩ := y_take1 (q := y_pl hc bg hr L' T' rows k.toNatClampNeg) t8 hT (k := k) (by omega) (by omega) (fun t ht => hL t ht k.toNatClampNeg (by omega)) to S 9 0 S (fX0_worthOf V S) (by decide) t0 (by omega) s0 s1 rfl (by rw [show y_msk (y_pl hc bg hr L' T' rows k.toNatClampNeg) to (0 : Int32).toNatClampNeg = 0 from rfl, Int32.or_zero])
        rw [g1, fX6_worthOf_l52, if_pos (by rw [Int32.lt_iff_toInt_lt]; omega)]
        unfold fX6_worthOf_x52
        rw [if_neg n10, hS to.toNatClampNeg (by omega), y_ofN i3]
        by_cases y1 : jshr st c0 &&& 1 = 1
        · rw [if_pos y1, if_pos y1]
          rcases y_bit1 (jshr st to) with w | w
          · rw [if_neg (by rw [w]; decide), if_pos w]
          · rw [if_pos w, if_neg (by rw [w]; decide)]
        · rw [if_neg y1, if_neg y1]
  | succ r ih =>
    intro n k S a u hn k1 kr s0 s1 a0 a7 hu
    obtain ⟨n, rfl⟩ : ∃ n' : Nat, n = n' + 1 + 1 := ⟨n - 2, by omega⟩
    have hpz : 0 < 3 ^ r := Nat.pow_pos (by decide)
    have hps : 3 ^ (r + 1) = 3 * 3 ^ r := by rw [Nat.pow_succ, Nat.mul_comm]
    have u3 : (u / 3).toInt = ((3 ^ r : Nat) : Int) := by
      rw [z_divN u 3 (by rw [hu]; omega) (by decide), hu, e3, hps]
      omega
    have u30 : ¬ u / 3 = 0 := by
      intro q; rw [q, e0] at u3; omega
    have hd := y_dig hcd hu
    have hdl : cd / 3 ^ (r + 1) % 3 < 3 := Nat.mod_lt _ (by decide)
    generalize cd / 3 ^ (r + 1) % 3 = dg at hd hdl ⊢
    have ek1 : (k + 1).toInt = k.toInt + 1 := y_add (by omega) (by omega) (by decide) (by decide)
    have edg : (Int32.ofNat dg).toInt = dg := Int32.toInt_ofNat_of_lt (by omega)
    have ed1 : (Int32.ofNat dg - 1).toInt = dg - 1 := by rw [Int32.toInt_sub, edg, e1]; simp only [Int.bmod, Nat.reducePow]; omega
    have et : (a + (Int32.ofNat dg - 1)).toInt = a.toInt + dg - 1 := by rw [y_add (by omega) (by omega) (by omega) (by omega), ed1]; omega
    rw [fX6_worthOf_l52, if_neg (by rw [Int32.lt_iff_toInt_lt]; omega), if_neg n10, if_neg (by rw [Int32.le_iff_toInt_le, e0]; omega), if_neg u30]
    unfold fX6_worthOf_j98l52
    rw [hd]
    generalize a + (Int32.ofNat dg - 1) = to at et ⊢
    unfold fX6_worthOf_j135l52 fX6_worthOf_x138l52
    dsimp only
    rw [y_V]
    rcases y_cellz to with ⟨i1, i2⟩ | ⟨i1, i2, i3, i4⟩
    · rw [if_pos i1, if_pos i2, fX6_worthOf_l52, if_neg (by rw [Int32.lt_iff_toInt_lt]; omega), if_pos rfl, ite_self]
      unfold fX6_worthOf_x52
      rw [if_pos rfl]
    · rw [if_neg (show ¬ fX5_isCell to = 0 by rw [i1]; decide), if_neg (show ¬ fX6_isCell to = 0 by rw [i2]; decide)]
      have ck := z_clampN (x := k) (by omega)
      have ct := z_clampN i3
      obtain ⟨l1, d1⟩ := hD k.toNatClampNeg (by omega) to.toNatClampNeg (by omega)
      rw [y_ofN i3] at l1 d1
      rw [y_ofN (by omega : 0 ≤ k.toInt)] at d1
      have hk : (hr + k).toInt = hr.toInt + k.toInt := y_add (by omega) (by omega) (by omega) (by omega)
      rw [y_ix2 (by omega) (by omega) i3 i4, l1, d1, ← y_dry hG hc1 (h := hr + k) (by omega) i3 i4 b0 b1]
      by_cases z : fX4_isDry hc L T to (hr + k) bg = 0
      · rw [if_pos z, if_pos z, fX6_worthOf_l52, if_neg (by rw [Int32.lt_iff_toInt_lt]; omega), if_pos rfl, ite_self]
        unfold fX6_worthOf_x52
        rw [if_pos rfl]
      · rw [if_neg z, if_neg z]
        obtain ⟨g1, g2, g3⟩ := y_take1 (q := y_pl hc bg hr L' T' rows k.toNatClampNeg) t8 hT (k := k) (by omega) (by omega) (fun t ht => hL t ht k.toNatClampNeg (by omega)) to S 9 0 S (fX0_worthOf V S) (by decide) t0 (by omega) s0 s1 rfl (by rw [show y_msk (y_pl hc bg hr L' T' rows k.toNatClampNeg) to (0 : Int32).toNatClampNeg = 0 from rfl, Int32.or_zero])
        rw [g1]
        exact ih (n + 1) (k + 1) _ to (u / 3) (by omega) (by omega) (by omega) g2 g3 i3 i4 u3
theorem y_unit_all : ∀ h : Fin 8, fX6_worthOf_l9 (Int32.ofNat h.val) 9 1 1 = Int32.ofNat (3 ^ (h.val - 1)) ∧ fX6_best_l75 (Int32.ofNat h.val) 9 0 1 = Int32.ofNat (3 ^ h.val) ∧ 3 ^ h.val ≤ 2187 := by decide +kernel
theorem y_unit {h : Int32} (h0 : 0 ≤ h.toInt) (h7 : h.toInt ≤ 7) : fX6_worthOf_l9 h 9 1 1 = Int32.ofNat (3 ^ (h.toNatClampNeg - 1)) ∧ fX6_best_l75 h 9 0 1 = Int32.ofNat (3 ^ h.toNatClampNeg) ∧ 3 ^ h.toNatClampNeg ≤ 2187 := by
  have ch := z_clampN h0
  have q := y_unit_all ⟨h.toNatClampNeg, by omega⟩
  simp only [y_ofN h0] at q
  exact q
theorem y_way0 {hc bg hr tC st h c0 : Int32} {L L' T T' K P0 V rows lies dry lying stairs : Nat → Int32} {cd : Nat} (hG : RG hc L L' T T') (hc1 : 1 ≤ hc.toInt) (h00 : 0 ≤ hr.toInt) (h01 : hr.toInt ≤ 512) (b0 : -1 ≤ bg.toInt) (b1 : bg.toInt ≤ 7) (t0 : 0 ≤ tC.toInt) (t8 : tC.toInt ≤ 8) (hT : RT tC K P0 V rows) (hh0 : 0 ≤ h.toInt) (h7 : h.toInt ≤ 7) (hcd : cd ≤ 100000) (c00 : 0 ≤ c0.toInt) (c07 : c0.toInt ≤ 7)
    (hD : ∀ kk : Nat, (kk : Int) ≤ h.toInt → ∀ c : Nat, c < 8 → lying (8 * kk + c) = y_msk (y_pl hc bg hr L' T' rows kk) (Int32.ofNat c) tC.toNatClampNeg ∧ dry (8 * kk + c) = fX4_isDry hc L T (Int32.ofNat c) (hr + Int32.ofNat kk) bg)
    (hS : ∀ c : Nat, c < 8 → stairs c = jshr st (Int32.ofNat c) &&& 1)
    (hL : ∀ u : Nat, (u : Int) < tC.toInt → ∀ kk : Nat, (kk : Int) ≤ h.toInt → lies (8 * kk + u) = y_pl hc bg hr L' T' rows kk u) :
    ((stairs c0.toNatClampNeg = 0 ∨ dry c0.toNatClampNeg = 0) → fX6_worthOf hc st hr bg tC L' T' rows lies c0 h (Int32.ofNat cd) = -1) ∧
    (¬ stairs c0.toNatClampNeg = 0 → ¬ dry c0.toNatClampNeg = 0 → (h = 0 → fX6_worthOf hc st hr bg tC L' T' rows lies c0 h (Int32.ofNat cd) = fX0_worthOf V (lying c0.toNatClampNeg) ∧ 0 ≤ (fX0_worthOf V (lying c0.toNatClampNeg)).toInt) ∧ (¬ h = 0 → fX6_worthOf hc st hr bg tC L' T' rows lies c0 h (Int32.ofNat cd) = y_V dry lying stairs V (h.toNatClampNeg - 1) 1 (c0 + (Int32.ofNat (cd / 3 ^ (h.toNatClampNeg - 1) % 3) - 1)) (lying c0.toNatClampNeg) cd)) := by
  have e0 : (0 : Int32).toInt = 0 := rfl
  have e1 : (1 : Int32).toInt = 1 := rfl
  have n10 : ¬ (1 : Int32) = 0 := by decide
  have cc := z_clampN c00
  have ch := z_clampN hh0
  obtain ⟨l1, d1⟩ := hD 0 (by omega) c0.toNatClampNeg (by omega)
  rw [y_ofN c00, Nat.mul_zero, Nat.zero_add] at l1 d1
  rw [show hr + Int32.ofNat 0 = hr from Int32.add_zero hr] at d1
  have sc := hS c0.toNatClampNeg (by omega)
  rw [y_ofN c00] at sc
  have dd := y_dry hG hc1 (h := hr) h00 c00 c07 b0 b1
  obtain ⟨un, _, p7⟩ := y_unit hh0 h7
  unfold fX6_worthOf fX6_worthOf_x9
  rw [un, fX6_worthOf_l52, if_neg (by rw [Int32.lt_iff_toInt_lt, e0]; omega), ← dd, d1, sc]
  rcases y_b01 hc L T c0 hr bg with z | z
  · rw [z, if_pos rfl]
    refine ⟨?_, ?_⟩
    · intro _
      unfold fX6_worthOf_x52
      rw [if_pos rfl]
    · intro _ q; exact absurd rfl q
  · rw [z, if_neg n10, if_pos (by decide)]
    unfold fX6_worthOf_j135l52 fX6_worthOf_x138l52
    dsimp only
    have w0 : fX0_worthOf V 0 = 0 := y_w0l V 9 0 0 (by decide) (by decide) (by decide)
    obtain ⟨g1, g2, g3⟩ := y_take1 (q := y_pl hc bg hr L' T' rows 0) t8 hT (k := 0) (by decide) (by decide) (fun t ht => hL t ht 0 (by omega)) c0 0 9 0 0 0 (by decide) t0 (by omega) (by decide) (by decide) w0.symm (by rw [show y_msk (y_pl hc bg hr L' T' rows 0) c0 (0 : Int32).toNatClampNeg = 0 from rfl, Int32.or_zero])
    have gs := y_takeS (k := 0) (lies := lies) t8 hT 1 c0 9 0 0 0 (by decide) (by decide) (by decide) (by decide)
    rw [g1] at gs
    rw [g1]
    rw [Int32.zero_or, ← l1] at g2 g3 gs ⊢
    have gs' : 0 ≤ (fX0_worthOf V (lying c0.toNatClampNeg)).toInt := gs
    have k01 : (0 : Int32) + 1 = 1 := by decide
    rw [k01]
    dsimp only
    by_cases hz : h = 0
    · have hl : ∀ (b s S u a : Int32), fX6_worthOf_l52 hc hr bg tC L' T' rows lies h (Int32.ofNat cd) 8 1 b s S u a = (b, s, a) := by
        intro b s S u a
        rw [fX6_worthOf_l52, if_pos (by rw [hz]; decide)]
      rw [hl]
      unfold fX6_worthOf_x52
      dsimp only
      rw [if_neg n10]
      rcases y_bit1 (jshr st c0) with w | w
      · rw [w]
        refine ⟨fun _ => by rw [if_neg (by decide)], fun q => absurd rfl q⟩
      · rw [w]
        refine ⟨?_, ?_⟩
        · intro q
          rcases q with q | q
          · exact absurd q (by decide)
          · exact absurd q (by decide)
        · intro _ _
          refine ⟨fun _ => ⟨by rw [if_pos rfl, if_pos rfl], gs'⟩, fun q => absurd hz q⟩
    · have hn : ¬ h.toInt = 0 := by intro q; exact hz (Int32.toInt_inj.mp (by rw [e0]; exact q))
      have pl : 3 ^ (h.toNatClampNeg - 1) ≤ 2187 := Nat.le_trans (Nat.pow_le_pow_right (by decide) (by omega)) p7
      have hu : (Int32.ofNat (3 ^ (h.toNatClampNeg - 1))).toInt = ((3 ^ (h.toNatClampNeg - 1) : Nat) : Int) := Int32.toInt_ofNat_of_lt (by omega)
      have hw := y_way1 (c0 := c0) hG hc1 h00 h01 b0 b1 t0 t8 hT h7 hcd hD hS hL (h.toNatClampNeg - 1) 8 1 (lying c0.toNatClampNeg) c0 (Int32.ofNat (3 ^ (h.toNatClampNeg - 1))) (by omega) (by decide) (by rw [e1]; omega) g2 g3 c00 c07 hu
      rw [hw]
      rcases y_bit1 (jshr st c0) with w | w
      · rw [w]
        refine ⟨fun _ => by rw [if_neg (by decide)], fun q => absurd rfl q⟩
      · rw [w]
        refine ⟨?_, ?_⟩
        · intro q
          rcases q with q | q
          · exact absurd q (by decide)
          · exact absurd q (by decide)
        · intro _ _
          exact ⟨fun q => absurd q hz, fun _ => by rw [if_pos rfl]⟩
theorem y_scan {hc bg hr tC st h c0 F : Int32} {L T rows lies : Nat → Int32} {M : Nat} (hM : M ≤ 2187) : ∀ (N n a : Nat) (first most : Int32), a + N ≤ M → (∀ i : Nat, i < N → (if h = 0 then c0 else (c0 + (Int32.ofNat (a + i) / (Int32.ofNat M / 3))) - 1) = F) →
    fX6_best_l102 hc st hr bg tC L T rows c0 h lies (Int32.ofNat M) (n + N) (Int32.ofNat a) first most = fX6_best_l102 hc st hr bg tC L T rows c0 h lies (Int32.ofNat M) n (Int32.ofNat (a + N)) (if y_mx (fun cd => fX6_worthOf hc st hr bg tC L T rows lies c0 h (Int32.ofNat cd)) N a most ≤ most then first else F) (y_mx (fun cd => fX6_worthOf hc st hr bg tC L T rows lies c0 h (Int32.ofNat cd)) N a most) := by
  intro N
  induction N with
  | zero =>
    intro n a first most hN hF
    rw [y_mx, if_pos (Int32.le_refl most), Nat.add_zero, Nat.add_zero]
  | succ N ih =>
    intro n a first most hN hF
    have ea : (Int32.ofNat a).toInt = a := Int32.toInt_ofNat_of_lt (by omega)
    have eM : (Int32.ofNat M).toInt = M := Int32.toInt_ofNat_of_lt (by omega)
    have e1 : (1 : Int32).toInt = 1 := rfl
    have es : Int32.ofNat a + 1 = Int32.ofNat (a + 1) := Int32.toInt_inj.mp (by rw [y_add (by omega) (by omega) (by decide) (by decide), ea, e1, Int32.toInt_ofNat_of_lt (by omega)]; omega)
    have hF0 := hF 0 (by omega)
    rw [Nat.add_zero] at hF0
    have hF' : ∀ i : Nat, i < N → (if h = 0 then c0 else (c0 + (Int32.ofNat (a + 1 + i) / (Int32.ofNat M / 3))) - 1) = F := by
      intro i hi
      rw [show a + 1 + i = a + (i + 1) from by omega]
      exact hF (i + 1) (by omega)
    rw [show n + (N + 1) = (n + N) + 1 from by omega, fX6_best_l102, if_neg (by rw [Int32.le_iff_toInt_le]; omega), y_mx]
    unfold fX6_best_j150l102
    try dsimp only
    rw [es]
    generalize hw : fX6_worthOf hc st hr bg tC L T rows lies c0 h (Int32.ofNat a) = w
    by_cases q : w ≤ most
    · simp only [if_pos q]
      rw [ih n (a + 1) first most (by omega) hF', show a + 1 + N = a + (N + 1) from by omega]
    · simp only [if_neg q]
      have hG2 : (if h = 0 then fX6_best_l102 hc st hr bg tC L T rows c0 h lies (Int32.ofNat M) (n + N) (Int32.ofNat (a + 1)) c0 w else fX6_best_l102 hc st hr bg tC L T rows c0 h lies (Int32.ofNat M) (n + N) (Int32.ofNat (a + 1)) ((c0 + (Int32.ofNat a / (Int32.ofNat M / 3))) - 1) w) = fX6_best_l102 hc st hr bg tC L T rows c0 h lies (Int32.ofNat M) (n + N) (Int32.ofNat (a + 1)) F w := by
        by_cases hz : h = 0
        · rw [if_pos hz] at hF0 ⊢
          rw [hF0]
        · rw [if_neg hz] at hF0 ⊢
          rw [hF0]
      rw [hG2, ih n (a + 1) F w (by omega) hF', show a + 1 + N = a + (N + 1) from by omega, ite_self]
      have le := y_mx_le (fun cd => fX6_worthOf hc st hr bg tC L T rows lies c0 h (Int32.ofNat cd)) N (a + 1) w
      have nle : ¬ y_mx (fun cd => fX6_worthOf hc st hr bg tC L T rows lies c0 h (Int32.ofNat cd)) N (a + 1) w ≤ most := by
        rw [Int32.le_iff_toInt_le] at q ⊢
        omega
      rw [if_neg nle]
