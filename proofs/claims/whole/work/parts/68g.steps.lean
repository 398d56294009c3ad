theorem y_fit0 (hc bg mH mC x : Int32) (L T N : Nat → Int32) : ∀ (n : Nat) (i : Int32), fX6_fitsOf_l14l4 hc bg mH mC L T N x n i 0 = 0 := by
  intro n
  induction n with
  | zero => intro i; rw [fX6_fitsOf_l14l4]
  | succ n ih =>
    intro i
    rw [fX6_fitsOf_l14l4, if_pos rfl, ih, ite_self]
theorem y_fit {hc bg mH mC x : Int32} {L L' T T' M N : Nat → Int32} (hG : RG hc L L' T T') (hc1 : 1 ≤ hc.toInt) (b0 : -1 ≤ bg.toInt) (b1 : bg.toInt ≤ 7) (m0 : 0 ≤ mH.toInt) (m1 : mH.toInt ≤ 99) (c8 : mC.toInt ≤ 8) (hM : RM mC M N) (x0 : 0 ≤ x.toInt) (x1 : x.toInt ≤ 4) : ∀ (n : Nat) (i : Int32), 1 ≤ i.toInt → fX3_couldBe_l2 bg mC mH M hc L T x n i = fX6_fitsOf_l14l4 hc bg mH mC L' T' N x n i 1 := by
  intro n
  induction n with
  | zero => intro i i0; rw [fX3_couldBe_l2, fX6_fitsOf_l14l4]
  | succ n ih =>
    intro i i0
    rw [fX3_couldBe_l2, fX6_fitsOf_l14l4]
    by_cases q : mC ≤ i
    · rw [if_pos q, if_pos q]
    · rw [if_neg q, if_neg q, if_neg (by decide : ¬ (1 : Int32) = 0)]
      rw [Int32.le_iff_toInt_le] at q
      have e1 : (1 : Int32).toInt = 1 := rfl
      have ei : (i + 1).toInt = i.toInt + 1 := y_add (by omega) (by omega) (by decide) (by decide)
      have ed : (i - 1).toInt = i.toInt - 1 := by rw [Int32.toInt_sub, e1]; simp only [Int.bmod, Nat.reducePow]; omega
      have ea : (mH + i).toInt = mH.toInt + i.toInt := y_add (by omega) (by omega) (by omega) (by omega)
      have eh : (mH + i - 1).toInt = mH.toInt + i.toInt - 1 := by rw [Int32.toInt_sub, ea, e1]; simp only [Int.bmod, Nat.reducePow]; omega
      have k1 := z_clampN (x := i - 1) (by omega)
      have k2 := z_clampN (x := i) (by omega)
      obtain ⟨r1, r2, r3⟩ := hM (i - 1).toNatClampNeg (by omega)
      obtain ⟨r4, r5, r6⟩ := hM i.toNatClampNeg (by omega)
      rw [y_drift hG hc1 (h := mH + i - 1) (by omega) (by omega) b0 b1 x0 x1 r2 r3, r1, r4, ih (i + 1) (by omega), y_fit0]
theorem y_fits {hc bg mH mC : Int32} {L L' T T' M N : Nat → Int32} (hG : RG hc L L' T T') (hc1 : 1 ≤ hc.toInt) (b0 : -1 ≤ bg.toInt) (b1 : bg.toInt ≤ 7) (m0 : 0 ≤ mH.toInt) (m1 : mH.toInt ≤ 99) (c8 : mC.toInt ≤ 8) (hM : RM mC M N) : ∀ (n : Nat) (i c : Int32), 0 ≤ i.toInt → fX5_fits_l17 hc L T bg mC mH M n i c = fX6_fitsOf_l4 hc bg mH mC L' T' N n i c := by
  intro n
  induction n with
  | zero => intro i c i0; rw [fX5_fits_l17, fX6_fitsOf_l4]
  | succ n ih =>
    intro i c i0
    rw [fX5_fits_l17, fX6_fitsOf_l4]
    by_cases q : 5 ≤ i
    · rw [if_pos q, if_pos q]
    · rw [if_neg q, if_neg q]
      rw [Int32.le_iff_toInt_le] at q
      have e5 : (5 : Int32).toInt = 5 := rfl
      have ei : (i + 1).toInt = i.toInt + 1 := y_add (by omega) (by omega) (by decide) (by decide)
      rw [fX3_couldBe, y_fit hG hc1 b0 b1 m0 m1 c8 hM i0 (by omega) 9 1 (by decide)]
      unfold fX6_fitsOf_x14l4
      dsimp only
      rw [Int32.or_zero, ih (i + 1) c (by omega), ih (i + 1) (c ||| jshl 1 i) (by omega)]
theorem y_dec {i : Int32} (h0 : 0 ≤ i.toInt) (h1 : i.toInt ≤ 1000000) : (i + -1).toInt = i.toInt - 1 := by
  rw [y_add (by omega) h1 (by decide) (by decide)]
  show i.toInt + -1 = i.toInt - 1
  omega
theorem y_place {hc bg hr x : Int32} {L L' T T' : Nat → Int32} (hG : RG hc L L' T T') (hc1 : 1 ≤ hc.toInt) (b0 : -1 ≤ bg.toInt) (b1 : bg.toInt ≤ 7) (h0 : 0 ≤ hr.toInt) (h1 : hr.toInt ≤ 1000) (x0 : 0 ≤ x.toInt) (x1 : x.toInt ≤ 4) : ∀ (n : Nat) (i p : Int32), 0 ≤ i.toInt → i.toInt ≤ hr.toInt → -2 ≤ p.toInt → p.toInt ≤ 7 → fX5_placeNow_l14 hc L T bg hr x n (hr - i) p = fX6_whence_l78l64 hc hr bg L' T' x n i p := by
  intro n
  induction n with
  | zero => intro i p i0 i1 p0 p1; rw [fX5_placeNow_l14, fX6_whence_l78l64]
  | succ n ih =>
    intro i p i0 i1 p0 p1
    rw [fX5_placeNow_l14, fX6_whence_l78l64]
    have e0 : (0 : Int32).toInt = 0 := rfl
    have e1 : (1 : Int32).toInt = 1 := rfl
    have ed : (hr - i).toInt = hr.toInt - i.toInt := by rw [Int32.toInt_sub]; simp only [Int.bmod, Nat.reducePow]; omega
    by_cases q : i ≤ 0
    · have q2 : hr ≤ hr - i := by rw [Int32.le_iff_toInt_le] at q ⊢; omega
      rw [if_pos q, if_pos q2]
    · have q2 : ¬ hr ≤ hr - i := by rw [Int32.le_iff_toInt_le] at q ⊢; omega
      rw [if_neg q, if_neg q2]
      rw [Int32.le_iff_toInt_le] at q
      have ei := y_dec (i := i) i0 (by omega)
      generalize i + -1 = i2 at ei ⊢
      have ej : hr - i + 1 = hr - i2 := by
        apply Int32.toInt_inj.mp
        rw [y_add (by omega) (by omega) (by decide) (by decide), ed, e1, Int32.toInt_sub, ei]; simp only [Int.bmod, Nat.reducePow]; omega
      have eq := y_drift hG hc1 (h := hr - i) (by omega) (by omega) b0 b1 x0 x1 p0 p1
      have lo := y_low hc L T x p (hr - i) bg p0
      have hi := y_high hc L' T' x p (hr - i) bg p1
      rw [ej, eq]
      rw [eq] at lo
      exact ih i2 _ (by omega) (by omega) lo hi
theorem y_when {hc bg hr x c w : Int32} {L L' T T' : Nat → Int32} (hG : RG hc L L' T T') (hc1 : 1 ≤ hc.toInt) (b0 : -1 ≤ bg.toInt) (b1 : bg.toInt ≤ 7) (h0 : 0 ≤ hr.toInt) (h1 : hr.toInt ≤ 1000) (x0 : 0 ≤ x.toInt) (x1 : x.toInt ≤ 4) (w0 : 0 ≤ w.toInt) (w1 : w.toInt ≤ hr.toInt) : ∀ (n : Nat) (i a : Int32), 0 ≤ i.toInt → fX5_whence_l61 hc L T bg hr x c w n i a = fX6_whence_l64 hc hr bg L' T' x c w n i a := by
  intro n
  induction n with
  | zero => intro i a i0; rw [fX5_whence_l61, fX6_whence_l64]
  | succ n ih =>
    intro i a i0
    rw [fX5_whence_l61, fX6_whence_l64]
    by_cases q : 8 ≤ i
    · rw [if_pos q, if_pos q]
    · rw [if_neg q, if_neg q]
      rw [Int32.le_iff_toInt_le] at q
      have e8 : (8 : Int32).toInt = 8 := rfl
      have ei : (i + 1).toInt = i.toInt + 1 := y_add (by omega) (by omega) (by decide) (by decide)
      unfold fX5_placeNow fX5_placeNow_x14 fX6_whence_x78l64
      dsimp only
      rw [y_place hG hc1 b0 b1 h0 h1 x0 x1 13 w i w0 w1 (by omega) (by omega), Int32.or_zero, ih (i + 1) a (by omega), ih (i + 1) (a ||| jshl 1 i) (by omega)]
theorem s_fits (k : Nat) (x_page_letters : Nat → Int32) (x_page_size : Int32) (x_ground_levels : Nat → Int32) (x_ground_heights : Nat → Int32) (x_ground_heightCount : Int32) (x_ground_stairs : Int32) (x_now_kinds : Nat → Int32) (x_now_places : Nat → Int32) (x_now_worths : Nat → Int32) (x_now_thingCount : Int32) (x_now_barge : Int32) (x_now_hour : Int32) (x_now_markCount : Int32) (x_now_marks : Nat → Int32) (x_now_markHour : Int32) (x_kept_kinds : Nat → Int32) (x_kept_places : Nat → Int32) (x_kept_worths : Nat → Int32) (x_kept_thingCount : Int32) (x_kept_barge : Int32) (x_kept_hour : Int32) (x_kept_markCount : Int32) (x_kept_marks : Nat → Int32) (x_kept_markHour : Int32) (x_shoresRead : Int32) (x_bestsDone : Int32) (x_keptAtShore : Int32) (m_page : Nat → Int32) (m_pageMany : Int32) (m_heightMany : Int32) (m_stairs : Int32) (m_hourNow : Int32) (m_bargeAt : Int32) (m_shoresRead : Int32) (m_levels : Nat → Int32) (m_heights : Nat → Int32) (m_things : Int32) (m_rows : Nat → Int32) (m_done : Int32) (m_markHour : Int32) (m_markMany : Int32) (m_marks : Nat → Int32) (m_keptShore : Int32) (m_keptThings : Int32) (m_keptBarge : Int32) (m_keptHour : Int32) (m_keptMarkHour : Int32) (m_keptMarkMany : Int32) (m_keptRows : Nat → Int32) (m_keptMarks : Nat → Int32) (hk : k ≤ 64) (h : RR k x_page_letters x_page_size x_ground_levels x_ground_heights x_ground_heightCount x_ground_stairs x_now_kinds x_now_places x_now_worths x_now_thingCount x_now_barge x_now_hour x_now_markCount x_now_marks x_now_markHour x_kept_kinds x_kept_places x_kept_worths x_kept_thingCount x_kept_barge x_kept_hour x_kept_markCount x_kept_marks x_kept_markHour x_shoresRead x_bestsDone x_keptAtShore m_page m_pageMany m_heightMany m_stairs m_hourNow m_bargeAt m_shoresRead m_levels m_heights m_things m_rows m_done m_markHour m_markMany m_marks m_keptShore m_keptThings m_keptBarge m_keptHour m_keptMarkHour m_keptMarkMany m_keptRows m_keptMarks) : (fX5_fits x_ground_heightCount x_ground_levels x_ground_heights x_now_barge x_now_markCount x_now_markHour x_now_marks) = (fX6_fits m_heightMany m_bargeAt m_markHour m_markMany m_levels m_heights m_marks) ∧ RR (k + 1) x_page_letters x_page_size x_ground_levels x_ground_heights x_ground_heightCount x_ground_stairs x_now_kinds x_now_places x_now_worths x_now_thingCount x_now_barge x_now_hour x_now_markCount x_now_marks x_now_markHour x_kept_kinds x_kept_places x_kept_worths x_kept_thingCount x_kept_barge x_kept_hour x_kept_markCount x_kept_marks x_kept_markHour x_shoresRead x_bestsDone x_keptAtShore m_page m_pageMany m_heightMany m_stairs m_hourNow m_bargeAt m_shoresRead m_levels m_heights m_things m_rows m_done m_markHour m_markMany m_marks m_keptShore m_keptThings m_keptBarge m_keptHour m_keptMarkHour m_keptMarkMany m_keptRows m_keptMarks := by
  obtain ⟨⟨e1, e2, e3, e4, e5, e6, e7, e8, e9, e10⟩, hB, hP, hG, hT, hM, hK, hW, hW2⟩ := h
  subst e1 e2 e3 e4 e5 e6 e7 e8 e9 e10
  obtain ⟨b1, b2, b3, b4, b5, b6, b7, b8, b9, b10, b11⟩ := id hB
  refine ⟨?_, ⟨rfl, rfl, rfl, rfl, rfl, rfl, rfl, rfl, rfl, rfl⟩, hB.up, hP, hG, hT, hM, hK.up, hW, hW2⟩
  unfold fX5_fits fX6_fits
  by_cases q : x_now_markCount = 0
  · rw [if_pos q, if_pos q]
  · rw [if_neg q, if_neg q]
    have h1 : 1 ≤ x_ground_heightCount.toInt := by
      rcases b11 with ⟨_, _, _, v, _⟩ | ⟨_, v⟩
      · exact absurd v q
      · omega
    exact y_fits hG h1 b5.1 b5.2 b8.1 b8.2 b7.2 hM 6 0 0 (by decide)

theorem s_whence (k : Nat) (x_page_letters : Nat → Int32) (x_page_size : Int32) (x_ground_levels : Nat → Int32) (x_ground_heights : Nat → Int32) (x_ground_heightCount : Int32) (x_ground_stairs : Int32) (x_now_kinds : Nat → Int32) (x_now_places : Nat → Int32) (x_now_worths : Nat → Int32) (x_now_thingCount : Int32) (x_now_barge : Int32) (x_now_hour : Int32) (x_now_markCount : Int32) (x_now_marks : Nat → Int32) (x_now_markHour : Int32) (x_kept_kinds : Nat → Int32) (x_kept_places : Nat → Int32) (x_kept_worths : Nat → Int32) (x_kept_thingCount : Int32) (x_kept_barge : Int32) (x_kept_hour : Int32) (x_kept_markCount : Int32) (x_kept_marks : Nat → Int32) (x_kept_markHour : Int32) (x_shoresRead : Int32) (x_bestsDone : Int32) (x_keptAtShore : Int32) (m_page : Nat → Int32) (m_pageMany : Int32) (m_heightMany : Int32) (m_stairs : Int32) (m_hourNow : Int32) (m_bargeAt : Int32) (m_shoresRead : Int32) (m_levels : Nat → Int32) (m_heights : Nat → Int32) (m_things : Int32) (m_rows : Nat → Int32) (m_done : Int32) (m_markHour : Int32) (m_markMany : Int32) (m_marks : Nat → Int32) (m_keptShore : Int32) (m_keptThings : Int32) (m_keptBarge : Int32) (m_keptHour : Int32) (m_keptMarkHour : Int32) (m_keptMarkMany : Int32) (m_keptRows : Nat → Int32) (m_keptMarks : Nat → Int32) (x1 : Int32) (x2 : Int32) (x3 : Int32) (hk : k ≤ 64) (h : RR k x_page_letters x_page_size x_ground_levels x_ground_heights x_ground_heightCount x_ground_stairs x_now_kinds x_now_places x_now_worths x_now_thingCount x_now_barge x_now_hour x_now_markCount x_now_marks x_now_markHour x_kept_kinds x_kept_places x_kept_worths x_kept_thingCount x_kept_barge x_kept_hour x_kept_markCount x_kept_marks x_kept_markHour x_shoresRead x_bestsDone x_keptAtShore m_page m_pageMany m_heightMany m_stairs m_hourNow m_bargeAt m_shoresRead m_levels m_heights m_things m_rows m_done m_markHour m_markMany m_marks m_keptShore m_keptThings m_keptBarge m_keptHour m_keptMarkHour m_keptMarkMany m_keptRows m_keptMarks) : (fX5_whence x_shoresRead x_ground_heightCount x_ground_levels x_ground_heights x_now_barge x_now_hour x1 x2 x3) = (fX6_whence m_heightMany m_hourNow m_bargeAt m_levels m_heights x1 x2 x3) ∧ RR (k + 1) x_page_letters x_page_size x_ground_levels x_ground_heights x_ground_heightCount x_ground_stairs x_now_kinds x_now_places x_now_worths x_now_thingCount x_now_barge x_now_hour x_now_markCount x_now_marks x_now_markHour x_kept_kinds x_kept_places x_kept_worths x_kept_thingCount x_kept_barge x_kept_hour x_kept_markCount x_kept_marks x_kept_markHour x_shoresRead x_bestsDone x_keptAtShore m_page m_pageMany m_heightMany m_stairs m_hourNow m_bargeAt m_shoresRead m_levels m_heights m_things m_rows m_done m_markHour m_markMany m_marks m_keptShore m_keptThings m_keptBarge m_keptHour m_keptMarkHour m_keptMarkMany m_keptRows m_keptMarks := by
  obtain ⟨⟨e1, e2, e3, e4, e5, e6, e7, e8, e9, e10⟩, hB, hP, hG, hT, hM, hK, hW, hW2⟩ := h
  subst e1 e2 e3 e4 e5 e6 e7 e8 e9 e10
  obtain ⟨b1, b2, b3, b4, b5, b6, b7, b8, b9, b10, b11⟩ := id hB
  refine ⟨?_, ⟨rfl, rfl, rfl, rfl, rfl, rfl, rfl, rfl, rfl, rfl⟩, hB.up, hP, hG, hT, hM, hK.up, hW, hW2⟩
  unfold fX5_whence fX6_whence
  rcases y_kindz x1 with ⟨a, c⟩ | ⟨a, c, c0, c1⟩
  · rw [if_pos a, if_pos c]
  · rw [if_neg (show ¬ fX5_isKind x1 = 0 by rw [a]; decide), if_neg (show ¬ fX6_in x1.toInt64 0 4 = 0 by rw [c]; decide)]
    rcases y_cellz x2 with ⟨a2, d2⟩ | ⟨a2, d2, d0, d1⟩
    · rw [if_pos a2, if_pos d2]
    · rw [if_neg (show ¬ fX5_isCell x2 = 0 by rw [a2]; decide), if_neg (show ¬ fX6_isCell x2 = 0 by rw [d2]; decide)]
      rcases y_inz x3 1 12 with ⟨q, r⟩ | ⟨q, r0, r1⟩
      · have r' : x3.toInt < 1 ∨ 12 < x3.toInt := r
        rw [if_pos q]
        simp only [Int32.lt_iff_toInt_lt, Int32.le_iff_toInt_le, Int32.reduceToInt]
        by_cases z : x3.toInt < 1
        · rw [if_pos z]
        · rw [if_neg z, if_neg (by omega : ¬ x3.toInt ≤ 12)]
      · have r0' : 1 ≤ x3.toInt := r0
        have r1' : x3.toInt ≤ 12 := r1
        have z1 : ¬ x3 < (1 : Int32) := by rw [Int32.lt_iff_toInt_lt]; show ¬ x3.toInt < (1 : Int); omega
        have z2 : x3 ≤ (12 : Int32) := by rw [Int32.le_iff_toInt_le]; show x3.toInt ≤ (12 : Int); omega
        rw [if_neg (show ¬ fX6_in x3.toInt64 1 12 = 0 by rw [q]; decide), if_neg z1, if_pos z2]
        rcases y_has b11 with ⟨a', c', _⟩ | ⟨a', c', s1, h2⟩
        · rw [if_pos a', if_neg (show ¬ fX6_lacks x_ground_heightCount = 0 by rw [c']; decide)]
        · rw [if_neg (show ¬ fX5_hasShore x_shoresRead = 0 by rw [a']; decide), if_pos c']
          by_cases z : x3 ≤ x_now_hour
          · rw [if_pos z, if_pos z]
            rw [Int32.le_iff_toInt_le] at z
            exact y_when hG (by omega) b5.1 b5.2 b6.1 (by omega) c0 c1 (by omega) z 9 0 0 (by decide)
          · rw [if_neg z, if_neg z]
