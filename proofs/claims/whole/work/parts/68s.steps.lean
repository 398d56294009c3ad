theorem y_last {x : Int32} (x0 : 0 ≤ x.toInt) (x7 : x.toInt ≤ 7) : jmax (0 : Int32) (jmin x 7) = x := by
  have e7 : (7 : Int32).toInt = 7 := rfl
  have e0 : (0 : Int32).toInt = 0 := rfl
  have e : jmin x 7 = x := by
    unfold jmin
    rw [if_neg (by rw [Int32.lt_iff_toInt_lt, e7]; omega)]
  apply Int32.toInt_inj.mp
  rw [e, y_jmax, e0]
  omega
theorem y_hs {st i : Int32} (i0 : 0 ≤ i.toInt) (i7 : i.toInt ≤ 7) : vp_nar .boolean (fX4_hasStair st i) = jshr st i &&& 1 := by
  have hc : ¬ fX5_isCell i = 0 := by rw [y_cell1 i0 i7]; decide
  unfold fX4_hasStair
  rw [if_neg hc]
  rcases y_bit1 (jshr st i) with e | e
  · rw [e, if_neg (by decide : ¬ (0 : Int32) = 1)]; decide
  · rw [e, if_pos rfl]; decide
theorem y_stt (st : Int32) : ∀ (n : Nat) (i : Int32) (q : Nat → Int32), 0 ≤ i.toInt → i.toInt ≤ 8 → 8 - i.toInt < n → ∀ j : Nat, j < 8 → fX0_lookAhead_l32 st n i q j = if (j : Int) < i.toInt then q j else jshr st (Int32.ofNat j) &&& 1 := by
  intro n
  induction n with
  | zero => intro i q h0 h1 h2; exfalso; omega
  | succ n ih =>
    intro i q h0 h1 h2 j hj
    rw [fX0_lookAhead_l32]
    have e8 : (8 : Int32).toInt = 8 := rfl
    by_cases c : (8 : Int32) ≤ i
    · rw [if_pos c]
      rw [Int32.le_iff_toInt_le, e8] at c
      rw [if_pos (by omega)]
    · rw [if_neg c]
      rw [Int32.le_iff_toInt_le, e8] at c
      have e : (i + 1).toInt = i.toInt + 1 := y_add (by omega) (by omega) (by decide) (by decide)
      rw [ih (i + 1) _ (by omega) (by omega) (by omega) j hj, e]
      have en := z_clampN h0
      by_cases d : (j : Int) < i.toInt
      · rw [if_pos (by omega), if_pos d, pk_un (by omega)]
      · rw [if_neg d]
        by_cases d2 : (j : Int) < i.toInt + 1
        · have ej : j = i.toNatClampNeg := by omega
          rw [if_pos d2, ej, pk_us, y_hs h0 (by omega), y_ofN h0]
        · rw [if_neg d2]
theorem y_l61 (h c0 : Int32) (lying dry stairs V : Nat → Int32) (n : Nat) (y3 y2 f : Int32) (hy : ¬ c0 + 1 < y3) : fX0_bestFrom_l61 h lying dry stairs V c0 (n + 1) y3 y2 f = fX0_bestFrom_l61 h lying dry stairs V c0 n (y3 + 1) (jmax y2 (fX0_walked h lying dry stairs V 8 1 y3 (lying c0.toNatClampNeg))) (if jmax y2 (fX0_walked h lying dry stairs V 8 1 y3 (lying c0.toNatClampNeg)) ≤ y2 then f else y3) := by
  rw [fX0_bestFrom_l61, if_neg hy]
  generalize fX0_walked h lying dry stairs V 8 1 y3 (lying c0.toNatClampNeg) = w
  have hm := y_jm y2 w
  by_cases q : w ≤ y2
  · rw [if_pos q] at hm ⊢
    rw [← hm, if_pos (Int32.le_refl y2)]
  · rw [if_neg q] at hm ⊢
    rw [← hm, if_neg q]
theorem y_best {hc bg hr tC st h c0 : Int32} {L L' T T' K P0 V rows lies dry lying stairs : Nat → Int32} (hG : RG hc L L' T T') (hc1 : 1 ≤ hc.toInt) (h00 : 0 ≤ hr.toInt) (h01 : hr.toInt ≤ 512) (b0 : -1 ≤ bg.toInt) (b1 : bg.toInt ≤ 7) (t0 : 0 ≤ tC.toInt) (t8 : tC.toInt ≤ 8) (hT : RT tC K P0 V rows) (hh0 : 0 ≤ h.toInt) (h7 : h.toInt ≤ 7) (c00 : 0 ≤ c0.toInt) (c07 : c0.toInt ≤ 7)
    (hD : ∀ kk : Nat, (kk : Int) ≤ h.toInt → ∀ c : Nat, c < 8 → lying (8 * kk + c) = y_msk (y_pl hc bg hr L' T' rows kk) (Int32.ofNat c) tC.toNatClampNeg ∧ dry (8 * kk + c) = fX4_isDry hc L T (Int32.ofNat c) (hr + Int32.ofNat kk) bg)
    (hS : ∀ c : Nat, c < 8 → stairs c = jshr st (Int32.ofNat c) &&& 1)
    (hL : ∀ u : Nat, (u : Int) < tC.toInt → ∀ kk : Nat, (kk : Int) ≤ h.toInt → lies (8 * kk + u) = y_pl hc bg hr L' T' rows kk u) :
    (fX0_bestFrom h lying dry stairs V c0).1 = (fX6_best_l102 hc st hr bg tC L' T' rows c0 h lies (fX6_best_l75 h 9 0 1) 2188 0 (-1) (-1)).2 ∧ (fX0_bestFrom h lying dry stairs V c0).2 = (fX6_best_l102 hc st hr bg tC L' T' rows c0 h lies (fX6_best_l75 h 9 0 1) 2188 0 (-1) (-1)).1 := by
  have e0 : (0 : Int32).toInt = 0 := rfl
  have e1 : (1 : Int32).toInt = 1 := rfl
  have n1 : (-1 : Int32).toInt = -1 := rfl
  have hcell : ¬ fX5_isCell c0 = 0 := by rw [y_cell1 c00 c07]; decide
  have ch := z_clampN hh0
  obtain ⟨_, uc, p7⟩ := y_unit hh0 h7
  have hw : ∀ cd : Nat, cd ≤ 100000 → _ := fun cd hcd => y_way0 (cd := cd) (c0 := c0) hG hc1 h00 h01 b0 b1 t0 t8 hT hh0 h7 hcd c00 c07 hD hS hL
  rw [uc]
  unfold fX0_bestFrom
  rw [if_neg hcell]
  by_cases hz : h = 0
  · have h1 : h.toNatClampNeg = 0 := by rw [hz]; rfl
    rw [h1, Nat.pow_zero]
    have sc := y_scan (hc := hc) (bg := bg) (hr := hr) (tC := tC) (st := st) (h := h) (c0 := c0) (F := c0) (L := L') (T := T') (rows := rows) (lies := lies) (M := 1) (by decide) 1 2187 0 (-1) (-1) (by decide) (fun i _ => if_pos hz)
    have sc' : fX6_best_l102 hc st hr bg tC L' T' rows c0 h lies (Int32.ofNat 1) 2188 0 (-1) (-1) = _ := sc
    rw [sc', fX6_best_l102, if_pos (show Int32.ofNat 1 ≤ Int32.ofNat (0 + 1) by decide)]
    rw [y_mx, y_mx]
    dsimp only
    obtain ⟨w1, w2⟩ := hw 0 (by decide)
    by_cases s0 : stairs c0.toNatClampNeg = 0
    · rw [if_pos s0, w1 (Or.inl s0)]
      exact ⟨rfl, rfl⟩
    · by_cases d0 : dry c0.toNatClampNeg = 0
      · rw [if_neg s0, if_pos d0, w1 (Or.inr d0)]
        exact ⟨rfl, rfl⟩
      · rw [if_neg s0, if_neg d0, if_pos hz]
        obtain ⟨w3, w4⟩ := (w2 s0 d0).1 hz
        rw [w3]
        have ng : ¬ fX0_worthOf V (lying c0.toNatClampNeg) ≤ -1 := by rw [Int32.le_iff_toInt_le, n1]; omega
        rw [if_neg ng, if_neg ng]
        exact ⟨rfl, rfl⟩
  · have hn : ¬ h.toInt = 0 := by intro q; exact hz (Int32.toInt_inj.mp (by rw [e0]; exact q))
    obtain ⟨r, hr1⟩ : ∃ r : Nat, h.toNatClampNeg = r + 1 := ⟨h.toNatClampNeg - 1, by omega⟩
    have hps : 3 ^ (r + 1) = 3 * 3 ^ r := by rw [Nat.pow_succ, Nat.mul_comm]
    have hpz : 0 < 3 ^ r := Nat.pow_pos (by decide)
    rw [hr1] at p7 hw
    rw [hr1]
    rw [show r + 1 - 1 = r from rfl] at hw
    have hM : 3 ^ (r + 1) ≤ 2187 := p7
    have eN : Int32.ofNat (3 ^ (r + 1)) / 3 = Int32.ofNat (3 ^ r) := by
      apply Int32.toInt_inj.mp
      have d1 := z_divN (Int32.ofNat (3 ^ (r + 1))) 3 (by rw [Int32.toInt_ofNat_of_lt (by omega)]; omega) (by decide)
      have e3 : (3 : Int32).toInt = 3 := rfl
      rw [Int32.toInt_ofNat_of_lt (by omega), e3] at d1
      rw [d1, Int32.toInt_ofNat_of_lt (by omega), hps]
      omega
    have hF : ∀ d : Nat, d < 3 → ∀ i : Nat, i < 3 ^ r → (if h = 0 then c0 else (c0 + (Int32.ofNat (d * 3 ^ r + i) / (Int32.ofNat (3 ^ (r + 1)) / 3))) - 1) = c0 + Int32.ofNat d - 1 := by
      intro d hd i hi
      rw [if_neg hz, eN]
      have hdi : (d * 3 ^ r + i) / 3 ^ r = d := by rw [Nat.mul_comm, Nat.mul_add_div hpz, Nat.div_eq_of_lt hi, Nat.add_zero]
      have bd : d * 3 ^ r + i < 3 ^ (r + 1) := by
        rw [hps]
        have : d * 3 ^ r ≤ 2 * 3 ^ r := Nat.mul_le_mul_right _ (by omega)
        omega
      have ed : Int32.ofNat (d * 3 ^ r + i) / Int32.ofNat (3 ^ r) = Int32.ofNat d := by
        apply Int32.toInt_inj.mp
        have eN2 : (Int32.ofNat (3 ^ r)).toInt = ((3 ^ r : Nat) : Int) := Int32.toInt_ofNat_of_lt (by omega)
        have ea : (Int32.ofNat (d * 3 ^ r + i)).toInt = ((d * 3 ^ r + i : Nat) : Int) := Int32.toInt_ofNat_of_lt (by omega)
        have d1 := z_divN (Int32.ofNat (d * 3 ^ r + i)) (Int32.ofNat (3 ^ r)) (by rw [ea]; omega) (by rw [eN2]; omega)
        rw [d1, ea, eN2, ← Int.natCast_ediv, hdi, Int32.toInt_ofNat_of_lt (by omega)]
      rw [ed]
    have blk : ∀ d : Nat, d < 3 → ∀ m : Int32, -1 ≤ m.toInt → y_mx (fun cd => fX6_worthOf hc st hr bg tC L' T' rows lies c0 h (Int32.ofNat cd)) (3 ^ r) (d * 3 ^ r) m = jmax m (if stairs c0.toNatClampNeg = 0 ∨ dry c0.toNatClampNeg = 0 then -1 else fX0_walked h lying dry stairs V 8 1 (c0 + (Int32.ofNat d - 1)) (lying c0.toNatClampNeg)) := by
      intro d hd m hm
      have bd : ∀ i : Nat, i < 3 ^ r → d * 3 ^ r + i ≤ 100000 := by
        intro i hi
        have : d * 3 ^ r ≤ 2 * 3 ^ r := Nat.mul_le_mul_right _ (by omega)
        omega
      by_cases z : stairs c0.toNatClampNeg = 0 ∨ dry c0.toNatClampNeg = 0
      · rw [if_pos z, y_jm1 hm]
        refine y_mx_dead _ _ _ hm ?_
        intro i hi
        exact (hw (d * 3 ^ r + i) (bd i hi)).1 z
      · rw [if_neg z]
        have s0 : ¬ stairs c0.toNatClampNeg = 0 := fun q => z (Or.inl q)
        have d0 : ¬ dry c0.toNatClampNeg = 0 := fun q => z (Or.inr q)
        have edg : (Int32.ofNat d).toInt = d := Int32.toInt_ofNat_of_lt (by omega)
        have ed1 : (Int32.ofNat d - 1).toInt = d - 1 := by rw [Int32.toInt_sub, edg, e1]; simp only [Int.bmod, Nat.reducePow]; omega
        have et : (c0 + (Int32.ofNat d - 1)).toInt = c0.toInt + d - 1 := by rw [y_add (by omega) (by omega) (by omega) (by omega), ed1]; omega
        rw [← y_walk (dry := dry) (lying := lying) (stairs := stairs) (worths := V) h7 r 8 1 (c0 + (Int32.ofNat d - 1)) (lying c0.toNatClampNeg) d m (by omega) (by decide) (by rw [e1]; omega) (by omega) (by omega) hm]
        refine y_mx_congr _ _ _ ?_
        intro i hi
        have hv := ((hw (d * 3 ^ r + i) (bd i hi)).2 s0 d0).2 hz
        have h3 := y_d3 (p := 0) (d := d) (r := r) (i := i) hd hi
        rw [Nat.mul_zero, Nat.zero_add] at h3
        rw [h3] at hv
        exact hv
    obtain ⟨n, hnn⟩ : ∃ n : Nat, 2188 = n + 1 + 3 ^ r + 3 ^ r + 3 ^ r := ⟨2187 - 3 * 3 ^ r, by omega⟩
    have z0 : 0 * 3 ^ r = 0 := Nat.zero_mul _
    have z1 : 0 + 3 ^ r = 1 * 3 ^ r := by omega
    have z2 : 1 * 3 ^ r + 3 ^ r = 2 * 3 ^ r := by omega
    have z3 : 2 * 3 ^ r + 3 ^ r = 3 ^ (r + 1) := by omega
    have mm : ∀ x y : Int32, -1 ≤ x.toInt → -1 ≤ (jmax x y).toInt := by intro x y hx; rw [y_jmax]; omega
    have hm0 : -1 ≤ (-1 : Int32).toInt := by decide
    have b0' := blk 0 (by decide)
    have b1' := blk 1 (by decide)
    have b2' := blk 2 (by decide)
    have f0' := hF 0 (by decide)
    have f1' := hF 1 (by decide)
    have f2' := hF 2 (by decide)
    rw [z0] at b0' f0'
    have big : fX6_best_l102 hc st hr bg tC L' T' rows c0 h lies (Int32.ofNat (3 ^ (r + 1))) 2188 0 (-1) (-1) = fX6_best_l102 hc st hr bg tC L' T' rows c0 h lies (Int32.ofNat (3 ^ (r + 1))) (n + 1 + 3 ^ r + 3 ^ r + 3 ^ r) (Int32.ofNat 0) (-1) (-1) := by rw [← hnn]; rfl
    rw [big, y_scan hM (3 ^ r) (n + 1 + 3 ^ r + 3 ^ r) 0 (-1) (-1) (by omega) f0', b0' (-1) hm0, z1, y_scan hM (3 ^ r) (n + 1 + 3 ^ r) (1 * 3 ^ r) _ _ (by omega) f1', b1' _ (mm _ _ hm0), z2, y_scan hM (3 ^ r) (n + 1) (2 * 3 ^ r) _ _ (by omega) f2', b2' _ (mm _ _ (mm _ _ hm0)), z3, fX6_best_l102, if_pos (Int32.le_refl _)]
    obtain ⟨g0, g1, g2⟩ := y_dd c0
    rw [g0, g1, g2]
    have q0 : c0 + Int32.ofNat 0 - 1 = c0 - 1 := by rw [show Int32.ofNat 0 = 0 from rfl, Int32.add_zero]
    have q1 : c0 + Int32.ofNat 1 - 1 = c0 := by rw [show Int32.ofNat 1 = 1 from rfl, Int32.add_sub_cancel]
    have q2 : c0 + Int32.ofNat 2 - 1 = c0 + 1 := by
      rw [Int32.sub_eq_add_neg, Int32.add_assoc]
      rfl
    rw [q0, q1, q2]
    by_cases z : stairs c0.toNatClampNeg = 0 ∨ dry c0.toNatClampNeg = 0
    · have cl : (if stairs c0.toNatClampNeg = 0 then ((-1 : Int32), (-1 : Int32)) else if dry c0.toNatClampNeg = 0 then ((-1 : Int32), (-1 : Int32)) else if h = 0 then (fX0_worthOf V (lying c0.toNatClampNeg), c0) else fX0_bestFrom_x61 (fX0_bestFrom_l61 h lying dry stairs V c0 4 (c0 - 1) (-1) (-1)).1 (fX0_bestFrom_l61 h lying dry stairs V c0 4 (c0 - 1) (-1) (-1)).2) = ((-1 : Int32), (-1 : Int32)) := by
        rcases z with z | z
        · rw [if_pos z]
        · rw [if_pos z, ite_self]
      rw [cl]
      simp only [if_pos z, y_jm1 hm0, if_pos (Int32.le_refl (-1))]
      exact ⟨trivial, trivial⟩
    · have s0 : ¬ stairs c0.toNatClampNeg = 0 := fun q => z (Or.inl q)
      have d0 : ¬ dry c0.toNatClampNeg = 0 := fun q => z (Or.inr q)
      rw [if_neg s0, if_neg d0, if_neg hz]
      unfold fX0_bestFrom_x61
      have ec : (c0 + 1).toInt = c0.toInt + 1 := y_add (by omega) (by omega) (by decide) (by decide)
      have em : (c0 - 1).toInt = c0.toInt - 1 := by rw [Int32.toInt_sub, e1]; simp only [Int.bmod, Nat.reducePow]; omega
      have ec2 : (c0 + 1 + 1).toInt = c0.toInt + 2 := by rw [y_add (by omega) (by omega) (by decide) (by decide), ec, e1]; omega
      have s1 : c0 - 1 + 1 = c0 := Int32.sub_add_cancel c0 1
      rw [y_l61 h c0 lying dry stairs V 3 (c0 - 1) (-1) (-1) (by rw [Int32.lt_iff_toInt_lt]; omega), s1, y_l61 h c0 lying dry stairs V 2 c0 _ _ (by rw [Int32.lt_iff_toInt_lt]; omega), y_l61 h c0 lying dry stairs V 1 (c0 + 1) _ _ (by rw [Int32.lt_iff_toInt_lt]; omega), fX0_bestFrom_l61, if_pos (by rw [Int32.lt_iff_toInt_lt]; omega)]
      simp only [if_neg z]
      exact ⟨trivial, trivial⟩
theorem s_best (k : Nat) (x_page_letters : Nat → Int32) (x_page_size : Int32) (x_ground_levels : Nat → Int32) (x_ground_heights : Nat → Int32) (x_ground_heightCount : Int32) (x_ground_stairs : Int32) (x_now_kinds : Nat → Int32) (x_now_places : Nat → Int32) (x_now_worths : Nat → Int32) (x_now_thingCount : Int32) (x_now_barge : Int32) (x_now_hour : Int32) (x_now_markCount : Int32) (x_now_marks : Nat → Int32) (x_now_markHour : Int32) (x_kept_kinds : Nat → Int32) (x_kept_places : Nat → Int32) (x_kept_worths : Nat → Int32) (x_kept_thingCount : Int32) (x_kept_barge : Int32) (x_kept_hour : Int32) (x_kept_markCount : Int32) (x_kept_marks : Nat → Int32) (x_kept_markHour : Int32) (x_shoresRead : Int32) (x_bestsDone : Int32) (x_keptAtShore : Int32) (m_page : Nat → Int32) (m_pageMany : Int32) (m_heightMany : Int32) (m_stairs : Int32) (m_hourNow : Int32) (m_bargeAt : Int32) (m_shoresRead : Int32) (m_levels : Nat → Int32) (m_heights : Nat → Int32) (m_things : Int32) (m_rows : Nat → Int32) (m_done : Int32) (m_markHour : Int32) (m_markMany : Int32) (m_marks : Nat → Int32) (m_keptShore : Int32) (m_keptThings : Int32) (m_keptBarge : Int32) (m_keptHour : Int32) (m_keptMarkHour : Int32) (m_keptMarkMany : Int32) (m_keptRows : Nat → Int32) (m_keptMarks : Nat → Int32) (x_trial_thingCount : Int32) (x_trial_barge : Int32) (x_trial_hour : Int32) (x_trial_markCount : Int32) (x_trial_markHour : Int32) (x_trial_kinds : Nat → Int32) (x_trial_places : Nat → Int32) (x_trial_worths : Nat → Int32) (x_trial_marks : Nat → Int32) (x_child_last : Int32) (x_child_first : Int32) (x_child_lying : Nat → Int32) (x_child_dry : Nat → Int32) (x_child_stairs : Nat → Int32) (x_child_worths : Nat → Int32) (m_lies : Nat → Int32) (x1 : Int32) (x2 : Int32) (x3 : Int32) (hk : k ≤ 64) (h : RR k x_page_letters x_page_size x_ground_levels x_ground_heights x_ground_heightCount x_ground_stairs x_now_kinds x_now_places x_now_worths x_now_thingCount x_now_barge x_now_hour x_now_markCount x_now_marks x_now_markHour x_kept_kinds x_kept_places x_kept_worths x_kept_thingCount x_kept_barge x_kept_hour x_kept_markCount x_kept_marks x_kept_markHour x_shoresRead x_bestsDone x_keptAtShore m_page m_pageMany m_heightMany m_stairs m_hourNow m_bargeAt m_shoresRead m_levels m_heights m_things m_rows m_done m_markHour m_markMany m_marks m_keptShore m_keptThings m_keptBarge m_keptHour m_keptMarkHour m_keptMarkMany m_keptRows m_keptMarks) : (fX5_best x_shoresRead x_bestsDone x_ground_heightCount x_ground_stairs x_ground_levels x_ground_heights x_now_thingCount x_now_barge x_now_hour x_now_markCount x_now_markHour x_now_kinds x_now_places x_now_worths x_now_marks x_trial_thingCount x_trial_barge x_trial_hour x_trial_markCount x_trial_markHour x_trial_kinds x_trial_places x_trial_worths x_trial_marks x_child_last x_child_first x_child_lying x_child_dry x_child_stairs x_child_worths x1 x2 x3).1 = (fX6_best m_heightMany m_stairs m_hourNow m_bargeAt m_things m_done m_levels m_heights m_rows m_lies x1 x2 x3).1 ∧ RR (k + 1) x_page_letters x_page_size x_ground_levels x_ground_heights x_ground_heightCount x_ground_stairs x_now_kinds x_now_places x_now_worths x_now_thingCount x_now_barge x_now_hour x_now_markCount x_now_marks x_now_markHour x_kept_kinds x_kept_places x_kept_worths x_kept_thingCount x_kept_barge x_kept_hour x_kept_markCount x_kept_marks x_kept_markHour x_shoresRead ((fX5_best x_shoresRead x_bestsDone x_ground_heightCount x_ground_stairs x_ground_levels x_ground_heights x_now_thingCount x_now_barge x_now_hour x_now_markCount x_now_markHour x_now_kinds x_now_places x_now_worths x_now_marks x_trial_thingCount x_trial_barge x_trial_hour x_trial_markCount x_trial_markHour x_trial_kinds x_trial_places x_trial_worths x_trial_marks x_child_last x_child_first x_child_lying x_child_dry x_child_stairs x_child_worths x1 x2 x3).2.2.2.2.2.2.2.2.2.2.2.2.2.2.2.2) x_keptAtShore m_page m_pageMany m_heightMany m_stairs m_hourNow m_bargeAt m_shoresRead m_levels m_heights m_things m_rows ((fX6_best m_heightMany m_stairs m_hourNow m_bargeAt m_things m_done m_levels m_heights m_rows m_lies x1 x2 x3).2.1) m_markHour m_markMany m_marks m_keptShore m_keptThings m_keptBarge m_keptHour m_keptMarkHour m_keptMarkMany m_keptRows m_keptMarks := by
  obtain ⟨⟨e1, e2, e3, e4, e5, e6, e7, e8, e9, e10⟩, hB, hP, hG, hT, hM, hK, hW, hW2⟩ := h
  subst e1 e2 e3 e4 e5 e6 e7 e8 e9 e10
  obtain ⟨b1, b2, b3, b4, b5, b6, b7, b8, b9, b10, b11⟩ := id hB
  unfold fX5_best fX6_best
  have e0 : (0 : Int32).toInt = 0 := rfl
  have e1 : (1 : Int32).toInt = 1 := rfl
  have e7 : (7 : Int32).toInt = 7 := rfl
  have e40 : (40 : Int32).toInt = 40 := rfl
  rcases y_cellz x1 with ⟨a1, a2⟩ | ⟨a1, a2, c00, c07⟩
  · simp only [if_pos a1, if_pos a2]
    exact ⟨by first | rfl | trivial, ⟨rfl, rfl, rfl, rfl, rfl, rfl, rfl, rfl, rfl, rfl⟩, hB.up, hP, hG, hT, hM, hK.up, hW, hW2⟩
  · have a1' : ¬ fX5_isCell x1 = 0 := by rw [a1]; decide
    have a2' : ¬ fX6_isCell x1 = 0 := by rw [a2]; decide
    rcases y_inz x2 0 7 with ⟨q, r⟩ | ⟨q, r0, r1⟩
    · have r' : x2.toInt < 0 ∨ 7 < x2.toInt := r
      by_cases z : x2 < 0
      · simp only [if_neg a1', if_neg a2', if_pos q, if_pos z]
        exact ⟨by first | rfl | trivial, ⟨rfl, rfl, rfl, rfl, rfl, rfl, rfl, rfl, rfl, rfl⟩, hB.up, hP, hG, hT, hM, hK.up, hW, hW2⟩
      · have z2 : (7 : Int32) < x2 := by rw [Int32.lt_iff_toInt_lt] at z ⊢; omega
        simp only [if_neg a1', if_neg a2', if_pos q, if_neg z, if_pos z2]
        exact ⟨by first | rfl | trivial, ⟨rfl, rfl, rfl, rfl, rfl, rfl, rfl, rfl, rfl, rfl⟩, hB.up, hP, hG, hT, hM, hK.up, hW, hW2⟩
    · have r0' : 0 ≤ x2.toInt := r0
      have r1' : x2.toInt ≤ 7 := r1
      have q' : ¬ fX6_in x2.toInt64 0 7 = 0 := by rw [q]; decide
      have z1 : ¬ x2 < 0 := by rw [Int32.lt_iff_toInt_lt]; omega
      have z2 : ¬ (7 : Int32) < x2 := by rw [Int32.lt_iff_toInt_lt]; omega
      rcases y_inz x3 0 1 with ⟨p, t⟩ | ⟨p, t0, t1⟩
      · have t' : x3.toInt < 0 ∨ 1 < x3.toInt := t
        by_cases u : x3 < 0
        · simp only [if_neg a1', if_neg a2', if_neg q', if_neg z1, if_neg z2, if_pos p, if_pos u]
          exact ⟨by first | rfl | trivial, ⟨rfl, rfl, rfl, rfl, rfl, rfl, rfl, rfl, rfl, rfl⟩, hB.up, hP, hG, hT, hM, hK.up, hW, hW2⟩
        · have u2 : ¬ x3 ≤ 1 := by rw [Int32.lt_iff_toInt_lt] at u; rw [Int32.le_iff_toInt_le]; omega
          simp only [if_neg a1', if_neg a2', if_neg q', if_neg z1, if_neg z2, if_pos p, if_neg u, if_neg u2]
          exact ⟨by first | rfl | trivial, ⟨rfl, rfl, rfl, rfl, rfl, rfl, rfl, rfl, rfl, rfl⟩, hB.up, hP, hG, hT, hM, hK.up, hW, hW2⟩
      · have t0' : 0 ≤ x3.toInt := t0
        have t1' : x3.toInt ≤ 1 := t1
        have p' : ¬ fX6_in x3.toInt64 0 1 = 0 := by rw [p]; decide
        have u1 : ¬ x3 < 0 := by rw [Int32.lt_iff_toInt_lt]; omega
        have u2 : x3 ≤ 1 := by rw [Int32.le_iff_toInt_le]; omega
        rcases y_has b11 with ⟨a, c, _⟩ | ⟨a, c, s1, h2⟩
        · have c' : ¬ fX6_lacks x_ground_heightCount = 0 := by rw [c]; decide
          simp only [if_neg a1', if_neg a2', if_neg q', if_neg z1, if_neg z2, if_neg p', if_neg u1, if_pos u2, if_pos a, if_neg c']
          exact ⟨by first | rfl | trivial, ⟨rfl, rfl, rfl, rfl, rfl, rfl, rfl, rfl, rfl, rfl⟩, hB.up, hP, hG, hT, hM, hK.up, hW, hW2⟩
        · have a' : ¬ fX5_hasShore x_shoresRead = 0 := by rw [a]; decide
          by_cases w : x_bestsDone = 40
          · have w2 : ¬ x_bestsDone < 40 := by rw [w]; decide
            simp only [if_neg a1', if_neg a2', if_neg q', if_neg z1, if_neg z2, if_neg p', if_neg u1, if_pos u2, if_neg a', if_pos c, if_pos w, if_neg w2]
            exact ⟨by first | rfl | trivial, ⟨rfl, rfl, rfl, rfl, rfl, rfl, rfl, rfl, rfl, rfl⟩, hB.up, hP, hG, hT, hM, hK.up, hW, hW2⟩
          · have w3 : x_bestsDone.toInt < 40 := by rw [← Int32.toInt_inj, e40] at w; omega
            have w2 : x_bestsDone < 40 := by rw [Int32.lt_iff_toInt_lt]; exact w3
            have eb : (x_bestsDone + 1).toInt = x_bestsDone.toInt + 1 := y_add (by omega) (by omega) (by decide) (by decide)
            simp only [if_neg a1', if_neg a2', if_neg q', if_neg z1, if_neg z2, if_neg p', if_neg u1, if_pos u2, if_neg a', if_pos c, if_neg w, if_pos w2, fX5_best_c69, fX5_best_c85, fX5_best_c93, fX3_copyFrom, fX0_lookAhead, fX0_lookAhead_x32, fX0_lookAhead_x61, fX6_best_c66, fX6_best_x75, fX6_best_x102, fX6_layLies, fX6_layLies_x2, y_last r0' r1']
            have hT2 := hT.cpy (g1 := x_trial_kinds) (g2 := x_trial_places) (g3 := x_trial_worths) b4.2
            have hT3 := hT2.cpy (g1 := x_trial_kinds) (g2 := x_trial_places) (g3 := x_child_worths) b4.2
            have hP0 : RWh x_now_thingCount (va_cpy x_now_places x_trial_places 0 0 8) (y_pl x_ground_heightCount x_now_barge x_now_hour m_levels m_heights m_rows (0 : Int32).toNatClampNeg) := by
              intro t ht
              obtain ⟨_, v1, _, _, _, v5, v6, _⟩ := hT2 t ht
              exact ⟨v1, v5, v6⟩
            have hD := y_ahead hG (by omega) b6.1 (by omega) r0' r1' b5.1 b5.2 b4.1 b4.2 hT2 9 0 x_child_lying x_child_dry _ (by decide) (by omega) (by omega) hP0 (fun kk kl => by exfalso; omega)
            have hL := y_lay (hc := x_ground_heightCount) (bg := x_now_barge) (hr := x_now_hour) (L := m_levels) (T := m_heights) (rows := m_rows) (tC := x_now_thingCount) r0' r1' b4.2 9 0 m_lies (by decide) b4.1 (by omega) (fun u ul => by exfalso; omega)
            have hS : ∀ c : Nat, c < 8 → fX0_lookAhead_l32 x_ground_stairs 9 0 x_child_stairs c = jshr x_ground_stairs (Int32.ofNat c) &&& 1 := by
              intro c c8
              rw [y_stt x_ground_stairs 9 0 x_child_stairs (by decide) (by decide) (by decide) c c8, if_neg (by omega)]
            rw [Int32.add_zero] at hD
            obtain ⟨v1, v2⟩ := y_best (c0 := x1) hG (by omega) b6.1 (by omega) b5.1 b5.2 b4.1 b4.2 hT3 r0' r1' c00 c07 hD hS hL
            obtain ⟨u1', u2', u3, u4, u5, u6, u7, u8, u9, u10, u11⟩ := hB.up
            by_cases y : x3 = 0
            · simp only [if_pos y]
              exact ⟨v1, ⟨rfl, rfl, rfl, rfl, rfl, rfl, rfl, rfl, rfl, rfl⟩, ⟨u1', u2', u3, u4, u5, u6, u7, u8, u9, ⟨by omega, by omega⟩, u11⟩, hP, hG, hT, hM, hK.up, hW, hW2⟩
            · simp only [if_neg y]
              exact ⟨v2, ⟨rfl, rfl, rfl, rfl, rfl, rfl, rfl, rfl, rfl, rfl⟩, ⟨u1', u2', u3, u4, u5, u6, u7, u8, u9, ⟨by omega, by omega⟩, u11⟩, hP, hG, hT, hM, hK.up, hW, hW2⟩
