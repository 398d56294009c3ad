theorem y_jlrem {x y : Int64} (hx : 0 ≤ x.toInt) (hy : 0 < y.toInt) : (jlrem x y).toInt = x.toInt % y.toInt := by
  have h := lg_ldiv_nonneg hx hy
  have e : x.toInt / y.toInt * y.toInt = x.toInt - x.toInt % y.toInt := by rw [Int.emod_def, Int.mul_comm]; omega
  have b1 := Int.emod_nonneg x.toInt (show y.toInt ≠ 0 by omega)
  have b2 := Int.emod_lt_of_pos x.toInt hy
  have b3 := Int.mul_nonneg (Int.ediv_nonneg hx (show 0 ≤ y.toInt by omega)) (show 0 ≤ y.toInt by omega)
  have xl := Int64.toInt_lt x
  have yl := Int64.toInt_lt y
  unfold jlrem
  rw [Int64.toInt_sub, Int64.toInt_mul, h, e]
  rw [e] at b3
  generalize x.toInt % y.toInt = r at b1 b2 b3 ⊢
  simp only [Int.bmod, Nat.reducePow] at *
  omega
theorem y_mask {A : Int64} (hA : 0 ≤ A.toInt) : (A &&& 2147483647).toInt = A.toInt % 2147483648 := by
  have e1 : (A &&& 2147483647).toBitVec.toNat = A.toBitVec.toNat % 2147483648 := by
    rw [Int64.toBitVec_and, BitVec.toNat_and]
    exact Nat.and_two_pow_sub_one_eq_mod A.toBitVec.toNat 31
  have b : (A &&& 2147483647).toBitVec.toNat < 2147483648 := by rw [e1]; exact Nat.mod_lt _ (by decide)
  have e : (A &&& 2147483647).toInt = ((A &&& 2147483647).toBitVec.toNat : Int) := by
    show (A &&& 2147483647).toBitVec.toInt = _
    rw [BitVec.toInt_eq_toNat_of_lt (by omega)]
  have ea : A.toInt = (A.toBitVec.toNat : Int) := by
    have h : A.toInt = A.toBitVec.toInt := rfl
    rw [h, BitVec.toInt_eq_toNat_cond] at hA ⊢
    have l := A.toBitVec.isLt
    split at hA
    · rename_i c; rw [if_pos c]
    · exfalso; simp only [Nat.reducePow] at hA l; omega
  rw [e, e1, ea]
  omega
theorem y_draw {s x : Int32} (s0 : 0 ≤ s.toInt) (x1 : 1 ≤ x.toInt) : (fX1_next s.toInt64 x).1 = (fX6_draw s x).1 ∧ (fX1_next s.toInt64 x).2 = (fX6_draw s x).2.toInt64 ∧ 0 ≤ (fX6_draw s x).2.toInt := by
  have e0 : (0 : Int32).toInt = 0 := rfl
  have c1 : (1103515245 : Int64).toInt = 1103515245 := rfl
  have c2 : (12345 : Int64).toInt = 12345 := rfl
  have c3 : (2147483648 : Int64).toInt = 2147483648 := rfl
  have c4 : (65536 : Int64).toInt = 65536 := rfl
  have c5 : (65536 : Int32).toInt = 65536 := rfl
  have sl := Int32.toInt_lt s
  have xl := Int32.toInt_lt x
  have A0 : 0 ≤ (1103515245 * s.toInt64 + 12345).toInt := by
    have m1 : (1103515245 * s.toInt64).toInt = 1103515245 * s.toInt := by
      rw [Int64.toInt_mul, Int32.toInt_toInt64, c1]
      simp only [Int.bmod, Nat.reducePow] at *
      omega
    rw [Int64.toInt_add, m1, c2]
    have z0 : 0 ≤ 1103515245 * s.toInt := by omega
    have z1 : 1103515245 * s.toInt ≤ 2400000000000000000 := by omega
    generalize 1103515245 * s.toInt = z at z0 z1 ⊢
    simp only [Int.bmod, Nat.reducePow]
    omega
  unfold fX1_next fX6_draw
  rw [if_neg (by rw [Int32.le_iff_toInt_le, e0]; omega)]
  generalize 1103515245 * s.toInt64 + 12345 = A at A0 ⊢
  have m := z_mask31 A
  have mb := y_mask A0
  have er : jlrem A 2147483648 = A &&& 2147483647 := by
    apply Int64.toInt_inj.mp
    rw [y_jlrem A0 (by rw [c3]; decide), mb, c3]
  have hs : (A &&& 2147483647).toInt32.toInt64 = A &&& 2147483647 := lg_i2l_l2i (by rw [mb]; omega) (by rw [mb]; omega)
  rw [er]
  refine ⟨?_, hs.symm, m⟩
  show (jlrem ((A &&& 2147483647) / 65536) x.toInt64).toInt32 = jrem ((A &&& 2147483647).toInt32 / 65536) x
  rw [← hs]
  generalize (A &&& 2147483647).toInt32 = u at m ⊢
  rw [lg_l2i_i2l]
  have u0 : 0 ≤ u.toInt64.toInt := by rw [Int32.toInt_toInt64]; exact m
  have d1 := lg_ldiv_nonneg u0 (show 0 < (65536 : Int64).toInt by decide)
  have d2 := z_divN u 65536 m (by decide)
  rw [Int32.toInt_toInt64, c4] at d1
  rw [c5] at d2
  apply Int32.toInt_inj.mp
  rw [Int64.toInt_toInt32, y_jlrem (by rw [d1]; omega) (by rw [Int32.toInt_toInt64]; omega), z_remN _ _ (by rw [d2]; omega) (by omega), d1, d2, Int32.toInt_toInt64]
  have b1 := Int.emod_nonneg (u.toInt / 65536) (show x.toInt ≠ 0 by omega)
  have b2 := Int.emod_lt_of_pos (u.toInt / 65536) (show 0 < x.toInt by omega)
  generalize u.toInt / 65536 % x.toInt = r at b1 b2 ⊢
  simp only [Int.bmod, Nat.reducePow] at *
  omega
def RWh (n : Int32) (P W : Nat → Int32) : Prop := ∀ t : Nat, (t : Int) < n.toInt → P t = W t ∧ -2 ≤ (P t).toInt ∧ (P t).toInt ≤ 7
theorem RWh.put {n i v : Int32} {P W : Nat → Int32} (h : RWh n P W) (v0 : -2 ≤ v.toInt) (v1 : v.toInt ≤ 7) : RWh n (upd P i.toNatClampNeg v) (upd W i.toNatClampNeg v) := by
  intro t ht
  unfold upd
  by_cases q : t = i.toNatClampNeg
  · rw [if_pos q, if_pos q]; exact ⟨rfl, v0, v1⟩
  · rw [if_neg q, if_neg q]; exact h t ht
theorem RT.cpy {n : Int32} {K P V rows g1 g2 g3 : Nat → Int32} (h : RT n K P V rows) (h8 : n.toInt ≤ 8) : RT n (va_cpy K g1 0 0 8) (va_cpy P g2 0 0 8) (va_cpy V g3 0 0 8) rows := by
  intro t ht
  rw [y_cpy (by omega), y_cpy (by omega), y_cpy (by omega)]
  exact h t ht
theorem y_wherel {tC : Int32} {K P V rows : Nat → Int32} (t8 : tC.toInt ≤ 8) (hT : RT tC K P V rows) : ∀ (n : Nat) (i : Int32) (q : Nat → Int32), 0 ≤ i.toInt → i.toInt ≤ tC.toInt → tC.toInt - i.toInt < n → (∀ t : Nat, (t : Int) < i.toInt → P t = q t) → RWh tC P (fX6_days_l44 tC rows n i q) := by
  intro n
  induction n with
  | zero => intro i q i0 i1 hf; exfalso; omega
  | succ n ih =>
    intro i q i0 i1 hf hq
    rw [fX6_days_l44]
    by_cases c : tC ≤ i
    · rw [if_pos c]
      rw [Int32.le_iff_toInt_le] at c
      intro t ht
      obtain ⟨_, _, _, _, _, r6, r7, _⟩ := hT t ht
      exact ⟨hq t (by omega), r6, r7⟩
    · rw [if_neg c]
      rw [Int32.le_iff_toInt_le] at c
      have ei : (i + 1).toInt = i.toInt + 1 := y_add (by omega) (by omega) (by decide) (by decide)
      have ci := z_clampN i0
      obtain ⟨r0, r1, r2, r3, r4, r5, r6, r7, r8⟩ := hT.at i0 (by omega) (by omega)
      refine ih (i + 1) _ (by omega) (by omega) (by omega) ?_
      intro t ht
      by_cases d : t = i.toNatClampNeg
      · rw [d, pk_us]; exact r1
      · rw [pk_un d]; exact hq t (by omega)
theorem y_goon {hc bg hr tC : Int32} {L L' T T' K P0 V rows : Nat → Int32} {h0 k : Int32} (hG : RG hc L L' T T') (hc1 : 1 ≤ hc.toInt) (hh : h0 + k = hr) (hr0 : 0 ≤ hr.toInt) (hr1 : hr.toInt ≤ 1000) (b0 : -1 ≤ bg.toInt) (b1 : bg.toInt ≤ 7) (t8 : tC.toInt ≤ 8) (hT : RT tC K P0 V rows) : ∀ (n : Nat) (i c : Int32) (P W : Nat → Int32), RWh tC P W → 0 ≤ i.toInt → RWh tC (fX3_goOn_l4 tC bg hr K hc L T n i c P).2 (fX6_days_l172l85 hc h0 bg tC L' T' rows k n i W) := by
  intro n
  induction n with
  | zero =>
    intro i c P W hP i0 t ht
    rw [fX3_goOn_l4, fX6_days_l172l85]
    exact ⟨rfl, (show (-2 : Int) ≤ (0 : Int32).toInt from by decide), (show (0 : Int32).toInt ≤ (7 : Int) from by decide)⟩
  | succ n ih =>
    intro i c P W hP i0
    rw [fX3_goOn_l4, fX6_days_l172l85]
    by_cases q : tC ≤ i
    · rw [if_pos q, if_pos q]; exact hP
    · rw [if_neg q, if_neg q]
      rw [Int32.le_iff_toInt_le] at q
      have ci := z_clampN i0
      obtain ⟨r0, r1, r2, r3, r4, r5, r6, r7, r8⟩ := hT.at i0 (by omega) (by omega)
      obtain ⟨p1, p2, p3⟩ := hP i.toNatClampNeg (by omega)
      have ei : (i + 1).toInt = i.toInt + 1 := y_add (by omega) (by omega) (by decide) (by decide)
      have ed : fX4_drifted hc L T (K i.toNatClampNeg) (P i.toNatClampNeg) hr bg = fX6_drifts hc bg L' T' (rows (4 * i).toNatClampNeg) (W i.toNatClampNeg) (h0 + k) := by
        rw [hh, ← r0, ← p1]; exact y_drift hG hc1 hr0 hr1 b0 b1 r3 r4 p2 p3
      have lo := y_low hc L T (K i.toNatClampNeg) (P i.toNatClampNeg) hr bg p2
      have hi := y_high hc L' T' (rows (4 * i).toNatClampNeg) (W i.toNatClampNeg) (h0 + k) bg (by rw [← p1]; exact p3)
      unfold fX3_goOn_j52l4
      dsimp only
      rw [ed] at lo ⊢
      have hP' := hP.put (i := i) lo hi
      split
      · exact ih (i + 1) c _ _ hP' (by omega)
      · exact ih (i + 1) (c + 1) _ _ hP' (by omega)
theorem y_takes {hc bg tC s h0 k : Int32} {L L' T T' P W rows : Nat → Int32} (hG : RG hc L L' T T') (hc1 : 1 ≤ hc.toInt) (hr0 : 0 ≤ (h0 + k).toInt) (b0 : -1 ≤ bg.toInt) (b1 : bg.toInt ≤ 7) (t0 : 0 ≤ tC.toInt) (t8 : tC.toInt ≤ 8) (s0 : 0 ≤ s.toInt) (hP : RWh tC P W) (k_ : Int32 → Int32 → (Nat → Int32) → Int32 × (Nat → Int32)) :
    ∃ (W' : Nat → Int32) (s' : Int32), (if tC ≤ 0 then fX6_days_j169l85 k_ hc h0 bg tC L' T' rows k s W else fX6_days_c100l85 k_ hc h0 bg tC L' T' rows k W (fX6_draw s 4).2 (fX6_draw s 4).1) = fX6_days_j169l85 k_ hc h0 bg tC L' T' rows k s' W' ∧ RWh tC (fX3_takeByDraw tC bg (h0 + k) P s.toInt64 hc L T).1 W' ∧ (fX3_takeByDraw tC bg (h0 + k) P s.toInt64 hc L T).2 = s'.toInt64 ∧ 0 ≤ s'.toInt := by
  have e0 : (0 : Int32).toInt = 0 := rfl
  unfold fX3_takeByDraw
  by_cases q : tC ≤ 0
  · have q0 : tC = 0 := by rw [Int32.le_iff_toInt_le] at q; rw [← Int32.toInt_inj]; omega
    rw [if_pos q, if_pos q0]
    exact ⟨W, s, rfl, hP, rfl, s0⟩
  · have q0 : ¬ tC = 0 := by intro h; rw [h] at q; exact q (by decide)
    rw [if_neg q, if_neg q0]
    rw [Int32.le_iff_toInt_le] at q
    obtain ⟨d1, d2, d3⟩ := y_draw (s := s) (x := 4) s0 (by decide)
    unfold fX6_days_c100l85 fX3_takeByDraw_c9
    rw [d1, d2]
    generalize (fX6_draw s 4).2 = s1 at d3 ⊢
    by_cases z : (fX6_draw s 4).1 = 0
    · rw [if_pos z, if_pos z]
      have dz := zX6_draw s1 tC (by rw [Int32.le_iff_toInt_le]; show (1 : Int) ≤ _; omega)
      obtain ⟨g1, g2, g3⟩ := y_draw (s := s1) (x := tC) d3 (by omega)
      unfold fX6_days_c111l85 fX3_takeByDraw_c21
      rw [g1, g2]
      generalize (fX6_draw s1 tC).2 = s2 at g3 ⊢
      generalize (fX6_draw s1 tC).1 = t at dz ⊢
      obtain ⟨z0, z1⟩ := dz
      have it : fX3_isThing tC t = 1 := by
        unfold fX3_isThing
        rw [if_neg (by rw [Int32.lt_iff_toInt_lt]; rw [Int32.le_iff_toInt_le] at z0; omega), if_neg (by rw [Int32.le_iff_toInt_le]; rw [Int32.lt_iff_toInt_lt] at z1; omega)]
      rw [it, if_neg (by decide : ¬ (1 : Int32) = 0)]
      rw [Int32.le_iff_toInt_le] at z0
      rw [Int32.lt_iff_toInt_lt] at z1
      have ct := z_clampN (x := t) (by omega)
      obtain ⟨p1, p2, p3⟩ := hP t.toNatClampNeg (by omega)
      have same : RWh tC P (upd W t.toNatClampNeg (W t.toNatClampNeg)) := by
        intro u hu
        by_cases d : u = t.toNatClampNeg
        · rw [d, pk_us]; exact ⟨p1, p2, p3⟩
        · rw [pk_un d]; exact hP u hu
      by_cases w : W t.toNatClampNeg < 0
      · rw [if_pos w]
        have nd : fX4_isDry hc L T (P t.toNatClampNeg) (h0 + k) bg = 0 := by
          unfold fX4_isDry
          rw [Int32.lt_iff_toInt_lt] at w
          rw [if_pos (y_cell0 (Or.inl (by rw [p1]; omega)))]
        rw [if_pos nd]
        exact ⟨_, s2, rfl, same, rfl, g3⟩
      · rw [if_neg w]
        rw [Int32.lt_iff_toInt_lt] at w
        have ed : fX4_isDry hc L T (P t.toNatClampNeg) (h0 + k) bg = fX6_isDry hc L' T' (W t.toNatClampNeg) (h0 + k) bg := by
          rw [← p1]; exact y_dry hG hc1 hr0 (by rw [p1]; omega) p3 b0 b1
        rw [ed]
        by_cases v : fX6_isDry hc L' T' (W t.toNatClampNeg) (h0 + k) bg = 0
        · rw [if_pos v, if_pos v]
          exact ⟨_, s2, rfl, same, rfl, g3⟩
        · rw [if_neg v, if_neg v]
          exact ⟨_, s2, rfl, hP.put (i := t) (by decide) (by decide), rfl, g3⟩
    · rw [if_neg z, if_neg z]
      exact ⟨W, s1, rfl, hP, rfl, d3⟩
theorem y_days {hc bg tC h0 x : Int32} {L L' T T' K P0 V rows : Nat → Int32} (hG : RG hc L L' T T') (hc1 : 1 ≤ hc.toInt) (h00 : 0 ≤ h0.toInt) (h01 : h0.toInt ≤ 512) (x60 : x.toInt ≤ 60) (b0 : -1 ≤ bg.toInt) (b1 : bg.toInt ≤ 7) (t0 : 0 ≤ tC.toInt) (t8 : tC.toInt ≤ 8) (hT : RT tC K P0 V rows) : ∀ (n : Nat) (k s : Int32) (P W : Nat → Int32), RWh tC P W → 0 ≤ k.toInt → 0 ≤ s.toInt → RWh tC (fX5_days_l60 hc L T x K tC bg n k P (h0 + k) s.toInt64).1 (fX6_days_l85 hc h0 bg tC L' T' rows x n k s W).2 ∧ (fX5_days_l60 hc L T x K tC bg n k P (h0 + k) s.toInt64).2.2 = (fX6_days_l85 hc h0 bg tC L' T' rows x n k s W).1.toInt64 := by
  intro n
  induction n with
  | zero =>
    intro k s P W hP k0 s0
    rw [fX5_days_l60, fX6_days_l85]
    exact ⟨fun t ht => ⟨rfl, (show (-2 : Int) ≤ (0 : Int32).toInt from by decide), (show (0 : Int32).toInt ≤ (7 : Int) from by decide)⟩, rfl⟩
  | succ n ih =>
    intro k s P W hP k0 s0
    rw [fX5_days_l60, fX6_days_l85]
    by_cases q : x ≤ k
    · rw [if_pos q, if_pos q]; exact ⟨hP, rfl⟩
    · rw [if_neg q, if_neg q]
      rw [Int32.le_iff_toInt_le] at q
      have eh : (h0 + k).toInt = h0.toInt + k.toInt := y_add (by omega) (by omega) (by omega) (by omega)
      have ek : (k + 1).toInt = k.toInt + 1 := y_add (by omega) (by omega) (by decide) (by decide)
      obtain ⟨W', s', e, hW', hs', s0'⟩ := y_takes (rows := rows) (h0 := h0) (k := k) hG hc1 (by omega) b0 b1 t0 t8 s0 hP (fun k0_ k1_ k2_ => fX6_days_l85 hc h0 bg tC L' T' rows x n k0_ k1_ k2_)
      rw [e]
      unfold fX5_days_c78l60 fX5_days_c89l60 fX6_days_j169l85 fX6_days_x172l85
      dsimp only
      rw [hs']
      have hg := y_goon (h0 := h0) (k := k) hG hc1 rfl (by omega) (by omega) b0 b1 t8 hT 9 0 0 _ W' hW' (by decide)
      have ea : h0 + k + 1 = h0 + (k + 1) := Int32.add_assoc h0 k 1
      unfold fX3_goOn fX3_goOn_x4
      dsimp only
      rw [ea]
      exact ih (k + 1) s' _ _ hg (by omega) s0'
theorem y_sums {tC : Int32} {K P0 V rows P W : Nat → Int32} (t8 : tC.toInt ≤ 8) (hT : RT tC K P0 V rows) (hP : RWh tC P W) : ∀ (n : Nat) (i a b c : Int32), 0 ≤ i.toInt → fX3_worthTaken_l4 tC P V n i a = (fX6_days_l239 tC rows W n i c b a).2.2 ∧ fX3_countIn_l4 tC P (-2) n i b = (fX6_days_l239 tC rows W n i c b a).2.1 ∧ fX3_cellsTogether_l4 tC P n i c = (fX6_days_l239 tC rows W n i c b a).1 := by
  intro n
  induction n with
  | zero => intro i a b c i0; rw [fX3_worthTaken_l4, fX3_countIn_l4, fX3_cellsTogether_l4, fX6_days_l239]; exact ⟨rfl, rfl, rfl⟩
  | succ n ih =>
    intro i a b c i0
    rw [fX3_worthTaken_l4, fX3_countIn_l4, fX3_cellsTogether_l4, fX6_days_l239]
    by_cases q : tC ≤ i
    · rw [if_pos q, if_pos q, if_pos q, if_pos q]; exact ⟨rfl, rfl, rfl⟩
    · rw [if_neg q, if_neg q, if_neg q, if_neg q]
      rw [Int32.le_iff_toInt_le] at q
      have ci := z_clampN i0
      obtain ⟨r0, r1, r2, r3, r4, r5, r6, r7, r8⟩ := hT.at i0 (by omega) (by omega)
      obtain ⟨p1, p2, p3⟩ := hP i.toNatClampNeg (by omega)
      have ei : (i + 1).toInt = i.toInt + 1 := y_add (by omega) (by omega) (by decide) (by decide)
      unfold fX6_days_j276l239 fX6_days_j298l239
      dsimp only
      rw [← r2, ← p1]
      simp only [Int32.add_zero]
      by_cases d1 : P i.toNatClampNeg = -1
      · have d2 : ¬ P i.toNatClampNeg = -2 := by rw [d1]; decide
        have d3 : P i.toNatClampNeg < 0 := by rw [d1]; decide
        have d4 : fX5_isCell (P i.toNatClampNeg) = 0 := by rw [d1]; decide
        simp only [if_pos d1, if_neg d2, if_pos d3, if_pos d4]
        exact ih (i + 1) (a + V i.toNatClampNeg) b c (by omega)
      · by_cases d2 : P i.toNatClampNeg = -2
        · have d3 : P i.toNatClampNeg < 0 := by rw [d2]; decide
          have d4 : fX5_isCell (P i.toNatClampNeg) = 0 := by rw [d2]; decide
          simp only [if_neg d1, if_pos d2, if_pos d3, if_pos d4]
          exact ih (i + 1) a (b + 1) c (by omega)
        · have d5 : 0 ≤ (P i.toNatClampNeg).toInt := by
            rw [← Int32.toInt_inj] at d1 d2
            have n1 : (-1 : Int32).toInt = -1 := rfl
            have n2 : (-2 : Int32).toInt = -2 := rfl
            omega
          have d3 : ¬ P i.toNatClampNeg < 0 := by rw [Int32.lt_iff_toInt_lt]; show ¬ _ < (0 : Int); omega
          have d4 : ¬ fX5_isCell (P i.toNatClampNeg) = 0 := by rw [y_cell1 d5 p3]; decide
          simp only [if_neg d1, if_neg d2, if_neg d3, if_neg d4]
          exact ih (i + 1) a b (c + P i.toNatClampNeg) (by omega)
theorem s_days (k : Nat) (x_page_letters : Nat → Int32) (x_page_size : Int32) (x_ground_levels : Nat → Int32) (x_ground_heights : Nat → Int32) (x_ground_heightCount : Int32) (x_ground_stairs : Int32) (x_now_kinds : Nat → Int32) (x_now_places : Nat → Int32) (x_now_worths : Nat → Int32) (x_now_thingCount : Int32) (x_now_barge : Int32) (x_now_hour : Int32) (x_now_markCount : Int32) (x_now_marks : Nat → Int32) (x_now_markHour : Int32) (x_kept_kinds : Nat → Int32) (x_kept_places : Nat → Int32) (x_kept_worths : Nat → Int32) (x_kept_thingCount : Int32) (x_kept_barge : Int32) (x_kept_hour : Int32) (x_kept_markCount : Int32) (x_kept_marks : Nat → Int32) (x_kept_markHour : Int32) (x_shoresRead : Int32) (x_bestsDone : Int32) (x_keptAtShore : Int32) (m_page : Nat → Int32) (m_pageMany : Int32) (m_heightMany : Int32) (m_stairs : Int32) (m_hourNow : Int32) (m_bargeAt : Int32) (m_shoresRead : Int32) (m_levels : Nat → Int32) (m_heights : Nat → Int32) (m_things : Int32) (m_rows : Nat → Int32) (m_done : Int32) (m_markHour : Int32) (m_markMany : Int32) (m_marks : Nat → Int32) (m_keptShore : Int32) (m_keptThings : Int32) (m_keptBarge : Int32) (m_keptHour : Int32) (m_keptMarkHour : Int32) (m_keptMarkMany : Int32) (m_keptRows : Nat → Int32) (m_keptMarks : Nat → Int32) (x_trial_thingCount : Int32) (x_trial_barge : Int32) (x_trial_hour : Int32) (x_trial_markCount : Int32) (x_trial_markHour : Int32) (x_trial_kinds : Nat → Int32) (x_trial_places : Nat → Int32) (x_trial_worths : Nat → Int32) (x_trial_marks : Nat → Int32) (x_draws_seed : Int64) (m_seedNow : Int32) (m_where : Nat → Int32) (x1 : Int32) (x2 : Int32) (x3 : Int32) (hk : k ≤ 64) (h : RR k x_page_letters x_page_size x_ground_levels x_ground_heights x_ground_heightCount x_ground_stairs x_now_kinds x_now_places x_now_worths x_now_thingCount x_now_barge x_now_hour x_now_markCount x_now_marks x_now_markHour x_kept_kinds x_kept_places x_kept_worths x_kept_thingCount x_kept_barge x_kept_hour x_kept_markCount x_kept_marks x_kept_markHour x_shoresRead x_bestsDone x_keptAtShore m_page m_pageMany m_heightMany m_stairs m_hourNow m_bargeAt m_shoresRead m_levels m_heights m_things m_rows m_done m_markHour m_markMany m_marks m_keptShore m_keptThings m_keptBarge m_keptHour m_keptMarkHour m_keptMarkMany m_keptRows m_keptMarks) : (fX5_days x_shoresRead x_ground_heightCount x_ground_levels x_ground_heights x_now_thingCount x_now_barge x_now_hour x_now_markCount x_now_markHour x_now_kinds x_now_places x_now_worths x_now_marks x_trial_thingCount x_trial_barge x_trial_hour x_trial_markCount x_trial_markHour x_trial_kinds x_trial_places x_trial_worths x_trial_marks x_draws_seed x1 x2 x3).1 = (fX6_days m_heightMany m_hourNow m_bargeAt m_things m_seedNow m_levels m_heights m_rows m_where x1 x2 x3).1 ∧ RR (k + 1) x_page_letters x_page_size x_ground_levels x_ground_heights x_ground_heightCount x_ground_stairs x_now_kinds x_now_places x_now_worths x_now_thingCount x_now_barge x_now_hour x_now_markCount x_now_marks x_now_markHour x_kept_kinds x_kept_places x_kept_worths x_kept_thingCount x_kept_barge x_kept_hour x_kept_markCount x_kept_marks x_kept_markHour x_shoresRead x_bestsDone x_keptAtShore m_page m_pageMany m_heightMany m_stairs m_hourNow m_bargeAt m_shoresRead m_levels m_heights m_things m_rows m_done m_markHour m_markMany m_marks m_keptShore m_keptThings m_keptBarge m_keptHour m_keptMarkHour m_keptMarkMany m_keptRows m_keptMarks := by
  obtain ⟨⟨e1, e2, e3, e4, e5, e6, e7, e8, e9, e10⟩, hB, hP, hG, hT, hM, hK, hW, hW2⟩ := h
  subst e1 e2 e3 e4 e5 e6 e7 e8 e9 e10
  obtain ⟨b1, b2, b3, b4, b5, b6, b7, b8, b9, b10, b11⟩ := id hB
  refine ⟨?_, ⟨rfl, rfl, rfl, rfl, rfl, rfl, rfl, rfl, rfl, rfl⟩, hB.up, hP, hG, hT, hM, hK.up, hW, hW2⟩
  unfold fX5_days fX6_days
  have e0 : (0 : Int32).toInt = 0 := rfl
  have e1 : (1 : Int32).toInt = 1 := rfl
  have e3 : (3 : Int32).toInt = 3 := rfl
  have e60 : (60 : Int32).toInt = 60 := rfl
  rcases y_inz x1 1 60 with ⟨q, r⟩ | ⟨q, r0, r1⟩
  · have r' : x1.toInt < 1 ∨ 60 < x1.toInt := r
    by_cases z : x1 < 1
    · simp only [if_pos q, if_pos z]
    · have z2 : (60 : Int32) < x1 := by rw [Int32.lt_iff_toInt_lt] at z ⊢; omega
      simp only [if_pos q, if_neg z, if_pos z2]
  · have r0' : 1 ≤ x1.toInt := r0
    have r1' : x1.toInt ≤ 60 := r1
    have q' : ¬ fX6_in x1.toInt64 1 60 = 0 := by rw [q]; decide
    have z1 : ¬ x1 < 1 := by rw [Int32.lt_iff_toInt_lt]; omega
    have z2 : ¬ (60 : Int32) < x1 := by rw [Int32.lt_iff_toInt_lt]; omega
    by_cases y : x2 < 0
    · simp only [if_neg q', if_neg z1, if_neg z2, if_pos y]
    · have y' := y
      rw [Int32.lt_iff_toInt_lt] at y'
      rcases y_inz x3 0 3 with ⟨p, t⟩ | ⟨p, t0, t1⟩
      · have t' : x3.toInt < 0 ∨ 3 < x3.toInt := t
        by_cases u : x3 < 0
        · simp only [if_neg q', if_neg z1, if_neg z2, if_neg y, if_pos p, if_pos u]
        · have u2 : ¬ x3 ≤ 3 := by rw [Int32.lt_iff_toInt_lt] at u; rw [Int32.le_iff_toInt_le]; omega
          simp only [if_neg q', if_neg z1, if_neg z2, if_neg y, if_pos p, if_neg u, if_neg u2]
      · have t0' : 0 ≤ x3.toInt := t0
        have t1' : x3.toInt ≤ 3 := t1
        have p' : ¬ fX6_in x3.toInt64 0 3 = 0 := by rw [p]; decide
        have u1 : ¬ x3 < 0 := by rw [Int32.lt_iff_toInt_lt]; omega
        have u2 : x3 ≤ 3 := by rw [Int32.le_iff_toInt_le]; omega
        rcases y_has b11 with ⟨a, c, _⟩ | ⟨a, c, s1, h2⟩
        · have c' : ¬ fX6_lacks x_ground_heightCount = 0 := by rw [c]; decide
          simp only [if_neg q', if_neg z1, if_neg z2, if_neg y, if_neg p', if_neg u1, if_pos u2, if_pos a, if_neg c']
        · have a' : ¬ fX5_hasShore x_shoresRead = 0 := by rw [a]; decide
          simp only [if_neg q', if_neg z1, if_neg z2, if_neg y, if_neg p', if_neg u1, if_pos u2, if_neg a', if_pos c, fX5_days_c45, fX5_days_x60, fX3_copyFrom, fX6_days_x44, fX6_days_x85, fX6_days_x239]
          have hT2 := hT.cpy (g1 := x_trial_kinds) (g2 := x_trial_places) (g3 := x_trial_worths) b4.2
          have w0 := y_wherel b4.2 hT2 9 0 m_where (by decide) (by omega) (by omega) (fun t ht => by exfalso; omega)
          obtain ⟨v1, v2⟩ := y_days hG (by omega) b6.1 (by omega) r1' b5.1 b5.2 b4.1 b4.2 hT2 61 0 x2 _ _ w0 (by decide) (by omega)
          rw [Int32.add_zero] at v1 v2
          obtain ⟨g1, g2, g3⟩ := y_sums b4.2 hT2 v1 9 0 0 0 0 (by decide)
          by_cases w1 : x3 = 0
          · simp only [if_pos w1]; exact g1
          · by_cases w2 : x3 = 1
            · simp only [if_neg w1, if_pos w2]; exact g2
            · by_cases w3 : x3 = 2
              · simp only [if_neg w1, if_neg w2, if_pos w3]; exact g3
              · simp only [if_neg w1, if_neg w2, if_neg w3]
                rw [v2, lg_l2i_i2l]
