theorem y_unc {hc bg hr x : Int32} {L L' T T' : Nat → Int32} (hG : RG hc L L' T T') (hc1 : 1 ≤ hc.toInt) (h0 : 0 ≤ hr.toInt) (b0 : -1 ≤ bg.toInt) (b1 : bg.toInt ≤ 7) (x0 : -1 ≤ x.toInt) (x1 : x.toInt ≤ 7) : ∀ (n : Nat) (i c : Int32), 0 ≤ i.toInt → fX5_uncovered_l29 hc L T bg hr x n i c = fX6_uncovered_l29 hc hr bg L' T' x n i c := by
  intro n
  induction n with
  | zero => intro i c i0; rw [fX5_uncovered_l29, fX6_uncovered_l29]
  | succ n ih =>
    intro i c i0
    rw [fX5_uncovered_l29, fX6_uncovered_l29]
    by_cases q : 8 ≤ i
    · rw [if_pos q, if_pos q]
    · rw [if_neg q, if_neg q]
      rw [Int32.le_iff_toInt_le] at q
      have e8 : (8 : Int32).toInt = 8 := rfl
      have ei : (i + 1).toInt = i.toInt + 1 := y_add (by omega) (by omega) (by decide) (by decide)
      have d1 := y_dry hG hc1 h0 (c := i) i0 (by omega) b0 b1
      have d2 := y_dry hG hc1 h0 (c := i) i0 (by omega) x0 x1
      rw [← d1, ← d2]
      have d3 : fX5_isDryNow hc L T bg hr i = fX4_isDry hc L T i hr bg := rfl
      rw [d3, Int32.or_zero, ih (i + 1) c (by omega), ih (i + 1) (c ||| jshl 1 i) (by omega)]
      rcases y_b01 hc L T i hr bg with p | p
      · rw [if_pos p]
        rcases y_b01 hc L T i hr x with p2 | p2
        · rw [if_pos p2, if_pos p2]
        · rw [if_neg (by rw [p2]; decide), if_neg (by rw [p2]; decide), if_pos p]
      · rw [if_neg (by rw [p]; decide)]
        rcases y_b01 hc L T i hr x with p2 | p2
        · rw [if_pos p2]
        · rw [if_neg (by rw [p2]; decide), if_neg (by rw [p]; decide)]
theorem y_share {tC x s : Int32} {K P V rows : Nat → Int32} (t8 : tC.toInt ≤ 8) (x0 : 0 ≤ x.toInt) (s0 : 0 ≤ s.toInt) (s1 : s.toInt ≤ 255) (hT : RT tC K P V rows) : ∀ (n : Nat) (i c : Int32), 0 ≤ i.toInt → fX3_worthBelonging_l6 tC P V s x (-1) n i c = fX6_shareOf_l5 tC rows x s n i c := by
  intro n
  induction n with
  | zero => intro i c i0; rw [fX3_worthBelonging_l6, fX6_shareOf_l5]
  | succ n ih =>
    intro i c i0
    rw [fX3_worthBelonging_l6, fX6_shareOf_l5]
    by_cases q : tC ≤ i
    · rw [if_pos q, if_pos q]
    · rw [if_neg q, if_neg q]
      rw [Int32.le_iff_toInt_le] at q
      obtain ⟨r0, r1, r2, r3, r4, r5, r6, r7, r8⟩ := hT.at i0 (by omega) (by omega)
      have ei : (i + 1).toInt = i.toInt + 1 := y_add (by omega) (by omega) (by decide) (by decide)
      rw [← r1, ← r2, Int32.add_zero, ih (i + 1) _ (by omega), ih (i + 1) _ (by omega)]
      by_cases d : P i.toNatClampNeg < 0
      · rw [if_pos d]
        have d' := d
        rw [Int32.lt_iff_toInt_lt] at d'
        have e0 : (0 : Int32).toInt = 0 := rfl
        have e1 : fX4_nearestStair s (P i.toNatClampNeg) (-1) = -1 := by
          unfold fX4_nearestStair
          rw [if_pos (y_cell0 (Or.inl (by omega)))]
        rw [e1, if_neg (by intro e; rw [← e] at x0; exact absurd x0 (by decide))]
      · rw [if_neg d]
        rw [Int32.lt_iff_toInt_lt] at d
        have e0 : (0 : Int32).toInt = 0 := rfl
        rw [y_near (by omega) r6 s0 s1]
theorem s_uncovered (k : Nat) (x_page_letters : Nat → Int32) (x_page_size : Int32) (x_ground_levels : Nat → Int32) (x_ground_heights : Nat → Int32) (x_ground_heightCount : Int32) (x_ground_stairs : Int32) (x_now_kinds : Nat → Int32) (x_now_places : Nat → Int32) (x_now_worths : Nat → Int32) (x_now_thingCount : Int32) (x_now_barge : Int32) (x_now_hour : Int32) (x_now_markCount : Int32) (x_now_marks : Nat → Int32) (x_now_markHour : Int32) (x_kept_kinds : Nat → Int32) (x_kept_places : Nat → Int32) (x_kept_worths : Nat → Int32) (x_kept_thingCount : Int32) (x_kept_barge : Int32) (x_kept_hour : Int32) (x_kept_markCount : Int32) (x_kept_marks : Nat → Int32) (x_kept_markHour : Int32) (x_shoresRead : Int32) (x_bestsDone : Int32) (x_keptAtShore : Int32) (m_page : Nat → Int32) (m_pageMany : Int32) (m_heightMany : Int32) (m_stairs : Int32) (m_hourNow : Int32) (m_bargeAt : Int32) (m_shoresRead : Int32) (m_levels : Nat → Int32) (m_heights : Nat → Int32) (m_things : Int32) (m_rows : Nat → Int32) (m_done : Int32) (m_markHour : Int32) (m_markMany : Int32) (m_marks : Nat → Int32) (m_keptShore : Int32) (m_keptThings : Int32) (m_keptBarge : Int32) (m_keptHour : Int32) (m_keptMarkHour : Int32) (m_keptMarkMany : Int32) (m_keptRows : Nat → Int32) (m_keptMarks : Nat → Int32) (x1 : Int32) (hk : k ≤ 64) (h : RR k x_page_letters x_page_size x_ground_levels x_ground_heights x_ground_heightCount x_ground_stairs x_now_kinds x_now_places x_now_worths x_now_thingCount x_now_barge x_now_hour x_now_markCount x_now_marks x_now_markHour x_kept_kinds x_kept_places x_kept_worths x_kept_thingCount x_kept_barge x_kept_hour x_kept_markCount x_kept_marks x_kept_markHour x_shoresRead x_bestsDone x_keptAtShore m_page m_pageMany m_heightMany m_stairs m_hourNow m_bargeAt m_shoresRead m_levels m_heights m_things m_rows m_done m_markHour m_markMany m_marks m_keptShore m_keptThings m_keptBarge m_keptHour m_keptMarkHour m_keptMarkMany m_keptRows m_keptMarks) : (fX5_uncovered x_shoresRead x_ground_heightCount x_ground_levels x_ground_heights x_now_barge x_now_hour x1) = (fX6_uncovered m_heightMany m_hourNow m_bargeAt m_levels m_heights x1) ∧ RR (k + 1) x_page_letters x_page_size x_ground_levels x_ground_heights x_ground_heightCount x_ground_stairs x_now_kinds x_now_places x_now_worths x_now_thingCount x_now_barge x_now_hour x_now_markCount x_now_marks x_now_markHour x_kept_kinds x_kept_places x_kept_worths x_kept_thingCount x_kept_barge x_kept_hour x_kept_markCount x_kept_marks x_kept_markHour x_shoresRead x_bestsDone x_keptAtShore m_page m_pageMany m_heightMany m_stairs m_hourNow m_bargeAt m_shoresRead m_levels m_heights m_things m_rows m_done m_markHour m_markMany m_marks m_keptShore m_keptThings m_keptBarge m_keptHour m_keptMarkHour m_keptMarkMany m_keptRows m_keptMarks := by
  obtain ⟨⟨e1, e2, e3, e4, e5, e6, e7, e8, e9, e10⟩, hB, hP, hG, hT, hM, hK, hW, hW2⟩ := h
  subst e1 e2 e3 e4 e5 e6 e7 e8 e9 e10
  obtain ⟨b1, b2, b3, b4, b5, b6, b7, b8, b9, b10, b11⟩ := id hB
  refine ⟨?_, ⟨rfl, rfl, rfl, rfl, rfl, rfl, rfl, rfl, rfl, rfl⟩, hB.up, hP, hG, hT, hM, hK.up, hW, hW2⟩
  have key : (-1 ≤ x1.toInt ∧ x1.toInt ≤ 7) → fX5_uncovered_j15 x_shoresRead x_ground_heightCount x_ground_levels x_ground_heights x_now_barge x_now_hour x1 = fX6_uncovered_j15 x_ground_heightCount x_now_hour x_now_barge m_levels m_heights x1 := by
    intro hy
    unfold fX5_uncovered_j15 fX6_uncovered_j15
    rcases y_has b11 with ⟨a, c, _⟩ | ⟨a, c, s1, h2⟩
    · rw [if_pos a, if_neg (by rw [c]; decide)]
    · rw [if_neg (by rw [a]; decide), if_pos c]
      exact y_unc hG (by omega) b6.1 b5.1 b5.2 hy.1 hy.2 9 0 0 (by decide)
  unfold fX5_uncovered fX6_uncovered
  by_cases q : x1 = -1
  · rw [if_pos q, if_pos q]; exact key (by rw [q]; decide)
  · rw [if_neg q, if_neg q]
    rcases y_cellz x1 with ⟨a, c⟩ | ⟨a, c, c0, c1⟩
    · rw [if_pos a, if_pos c]
    · rw [if_neg (by rw [a]; decide), if_neg (by rw [c]; decide)]; exact key ⟨by omega, c1⟩

theorem s_share (k : Nat) (x_page_letters : Nat → Int32) (x_page_size : Int32) (x_ground_levels : Nat → Int32) (x_ground_heights : Nat → Int32) (x_ground_heightCount : Int32) (x_ground_stairs : Int32) (x_now_kinds : Nat → Int32) (x_now_places : Nat → Int32) (x_now_worths : Nat → Int32) (x_now_thingCount : Int32) (x_now_barge : Int32) (x_now_hour : Int32) (x_now_markCount : Int32) (x_now_marks : Nat → Int32) (x_now_markHour : Int32) (x_kept_kinds : Nat → Int32) (x_kept_places : Nat → Int32) (x_kept_worths : Nat → Int32) (x_kept_thingCount : Int32) (x_kept_barge : Int32) (x_kept_hour : Int32) (x_kept_markCount : Int32) (x_kept_marks : Nat → Int32) (x_kept_markHour : Int32) (x_shoresRead : Int32) (x_bestsDone : Int32) (x_keptAtShore : Int32) (m_page : Nat → Int32) (m_pageMany : Int32) (m_heightMany : Int32) (m_stairs : Int32) (m_hourNow : Int32) (m_bargeAt : Int32) (m_shoresRead : Int32) (m_levels : Nat → Int32) (m_heights : Nat → Int32) (m_things : Int32) (m_rows : Nat → Int32) (m_done : Int32) (m_markHour : Int32) (m_markMany : Int32) (m_marks : Nat → Int32) (m_keptShore : Int32) (m_keptThings : Int32) (m_keptBarge : Int32) (m_keptHour : Int32) (m_keptMarkHour : Int32) (m_keptMarkMany : Int32) (m_keptRows : Nat → Int32) (m_keptMarks : Nat → Int32) (x1 : Int32) (hk : k ≤ 64) (h : RR k x_page_letters x_page_size x_ground_levels x_ground_heights x_ground_heightCount x_ground_stairs x_now_kinds x_now_places x_now_worths x_now_thingCount x_now_barge x_now_hour x_now_markCount x_now_marks x_now_markHour x_kept_kinds x_kept_places x_kept_worths x_kept_thingCount x_kept_barge x_kept_hour x_kept_markCount x_kept_marks x_kept_markHour x_shoresRead x_bestsDone x_keptAtShore m_page m_pageMany m_heightMany m_stairs m_hourNow m_bargeAt m_shoresRead m_levels m_heights m_things m_rows m_done m_markHour m_markMany m_marks m_keptShore m_keptThings m_keptBarge m_keptHour m_keptMarkHour m_keptMarkMany m_keptRows m_keptMarks) : (fX5_share x_ground_stairs x_now_thingCount x_now_places x_now_worths x1) = (fX6_share m_heightMany m_stairs m_things m_rows x1) ∧ RR (k + 1) x_page_letters x_page_size x_ground_levels x_ground_heights x_ground_heightCount x_ground_stairs x_now_kinds x_now_places x_now_worths x_now_thingCount x_now_barge x_now_hour x_now_markCount x_now_marks x_now_markHour x_kept_kinds x_kept_places x_kept_worths x_kept_thingCount x_kept_barge x_kept_hour x_kept_markCount x_kept_marks x_kept_markHour x_shoresRead x_bestsDone x_keptAtShore m_page m_pageMany m_heightMany m_stairs m_hourNow m_bargeAt m_shoresRead m_levels m_heights m_things m_rows m_done m_markHour m_markMany m_marks m_keptShore m_keptThings m_keptBarge m_keptHour m_keptMarkHour m_keptMarkMany m_keptRows m_keptMarks := by
  obtain ⟨⟨e1, e2, e3, e4, e5, e6, e7, e8, e9, e10⟩, hB, hP, hG, hT, hM, hK, hW, hW2⟩ := h
  subst e1 e2 e3 e4 e5 e6 e7 e8 e9 e10
  obtain ⟨b1, b2, b3, b4, b5, b6, b7, b8, b9, b10, b11⟩ := id hB
  refine ⟨?_, ⟨rfl, rfl, rfl, rfl, rfl, rfl, rfl, rfl, rfl, rfl⟩, hB.up, hP, hG, hT, hM, hK.up, hW, hW2⟩
  unfold fX5_share fX6_share
  rcases y_cellz x1 with ⟨a, c⟩ | ⟨a, c, c0, c1⟩
  · rw [if_pos a, if_pos c]; rfl
  · rw [if_neg (show ¬ fX5_isCell x1 = 0 by rw [a]; decide), if_neg (show ¬ fX6_isCell x1 = 0 by rw [c]; decide)]
    unfold fX4_hasStair
    rw [if_neg (show ¬ fX5_isCell x1 = 0 by rw [a]; decide)]
    have e1 : fX3_worthBelonging x_now_thingCount x_now_places x_now_worths x_ground_stairs x1 (-1) = fX6_shareOf x_now_thingCount m_rows x1 x_ground_stairs := y_share b4.2 c0 b3.1 b3.2 hT 9 0 0 (by decide)
    rcases y_has b11 with ⟨a', c', v1, v2, v3, v4, v5⟩ | ⟨a', c', s1, h2⟩
    · rw [if_neg (show ¬ fX6_lacks x_ground_heightCount = 0 by rw [c']; decide)]
      have en := z_clampN c0
      have e0 : jshr x_ground_stairs x1 &&& 1 = 0 := by
        rw [v5]
        have all : ∀ p : Fin 8, jshr 0 (Int32.ofNat p.val) &&& 1 = 0 := by decide +kernel
        have ep : Int32.ofNat x1.toNatClampNeg = x1 := Int32.toInt_inj.mp (by rw [Int32.toInt_ofNat_of_lt (by omega)]; omega)
        have h := all ⟨x1.toNatClampNeg, by omega⟩
        simp only [ep] at h
        exact h
      rw [e0]; rfl
    · rw [if_pos c']
      rcases y_bit1 (jshr x_ground_stairs x1) with e | e
      · rw [e]; rfl
      · rw [e, e1]; rfl
