theorem y_count {tC x : Int32} {K P V rows : Nat → Int32} (t8 : tC.toInt ≤ 8) (hT : RT tC K P V rows) : ∀ (n : Nat) (i c : Int32), 0 ≤ i.toInt → fX3_countIn_l4 tC P x n i c = fX6_lieIn_l4 tC rows x n i c := by
  intro n
  induction n with
  | zero => intro i c i0; rw [fX3_countIn_l4, fX6_lieIn_l4]
  | succ n ih =>
    intro i c i0
    rw [fX3_countIn_l4, fX6_lieIn_l4]
    by_cases q : tC ≤ i
    · rw [if_pos q, if_pos q]
    · rw [if_neg q, if_neg q]
      rw [Int32.le_iff_toInt_le] at q
      obtain ⟨r0, r1, r2, r3, r4, r5, r6, r7, r8⟩ := hT.at i0 (by omega) (by omega)
      have ei : (i + 1).toInt = i.toInt + 1 := y_add (by omega) (by omega) (by decide) (by decide)
      rw [← r1]
      by_cases d : P i.toNatClampNeg = x
      · rw [if_pos d, if_pos d]; exact ih (i + 1) _ (by omega)
      · rw [if_neg d, if_neg d, Int32.add_zero]; exact ih (i + 1) _ (by omega)
theorem y_bit1 (a : Int32) : a &&& 1 = 0 ∨ a &&& 1 = 1 := by
  have e : (a &&& 1).toBitVec.toNat = a.toBitVec.toNat % 2 := by
    rw [Int32.toBitVec_and, BitVec.toNat_and]
    exact Nat.and_one_is_mod _
  have o1 : (1 : Int32).toBitVec.toNat = 1 := rfl
  have o0 : (0 : Int32).toBitVec.toNat = 0 := rfl
  rcases Nat.mod_two_eq_zero_or_one a.toBitVec.toNat with h | h
  · left; exact Int32.toBitVec_inj.mp (BitVec.eq_of_toNat_eq (by omega))
  · right; exact Int32.toBitVec_inj.mp (BitVec.eq_of_toNat_eq (by omega))
theorem s_cell (k : Nat) (x_page_letters : Nat → Int32) (x_page_size : Int32) (x_ground_levels : Nat → Int32) (x_ground_heights : Nat → Int32) (x_ground_heightCount : Int32) (x_ground_stairs : Int32) (x_now_kinds : Nat → Int32) (x_now_places : Nat → Int32) (x_now_worths : Nat → Int32) (x_now_thingCount : Int32) (x_now_barge : Int32) (x_now_hour : Int32) (x_now_markCount : Int32) (x_now_marks : Nat → Int32) (x_now_markHour : Int32) (x_kept_kinds : Nat → Int32) (x_kept_places : Nat → Int32) (x_kept_worths : Nat → Int32) (x_kept_thingCount : Int32) (x_kept_barge : Int32) (x_kept_hour : Int32) (x_kept_markCount : Int32) (x_kept_marks : Nat → Int32) (x_kept_markHour : Int32) (x_shoresRead : Int32) (x_bestsDone : Int32) (x_keptAtShore : Int32) (m_page : Nat → Int32) (m_pageMany : Int32) (m_heightMany : Int32) (m_stairs : Int32) (m_hourNow : Int32) (m_bargeAt : Int32) (m_shoresRead : Int32) (m_levels : Nat → Int32) (m_heights : Nat → Int32) (m_things : Int32) (m_rows : Nat → Int32) (m_done : Int32) (m_markHour : Int32) (m_markMany : Int32) (m_marks : Nat → Int32) (m_keptShore : Int32) (m_keptThings : Int32) (m_keptBarge : Int32) (m_keptHour : Int32) (m_keptMarkHour : Int32) (m_keptMarkMany : Int32) (m_keptRows : Nat → Int32) (m_keptMarks : Nat → Int32) (x1 : Int32) (x2 : Int32) (hk : k ≤ 64) (h : RR k x_page_letters x_page_size x_ground_levels x_ground_heights x_ground_heightCount x_ground_stairs x_now_kinds x_now_places x_now_worths x_now_thingCount x_now_barge x_now_hour x_now_markCount x_now_marks x_now_markHour x_kept_kinds x_kept_places x_kept_worths x_kept_thingCount x_kept_barge x_kept_hour x_kept_markCount x_kept_marks x_kept_markHour x_shoresRead x_bestsDone x_keptAtShore m_page m_pageMany m_heightMany m_stairs m_hourNow m_bargeAt m_shoresRead m_levels m_heights m_things m_rows m_done m_markHour m_markMany m_marks m_keptShore m_keptThings m_keptBarge m_keptHour m_keptMarkHour m_keptMarkMany m_keptRows m_keptMarks) : (fX5_cell x_shoresRead x_ground_heightCount x_ground_stairs x_ground_levels x_ground_heights x_now_thingCount x_now_barge x_now_hour x_now_places x1 x2) = (fX6_cell m_heightMany m_stairs m_hourNow m_bargeAt m_things m_levels m_heights m_rows x1 x2) ∧ RR (k + 1) x_page_letters x_page_size x_ground_levels x_ground_heights x_ground_heightCount x_ground_stairs x_now_kinds x_now_places x_now_worths x_now_thingCount x_now_barge x_now_hour x_now_markCount x_now_marks x_now_markHour x_kept_kinds x_kept_places x_kept_worths x_kept_thingCount x_kept_barge x_kept_hour x_kept_markCount x_kept_marks x_kept_markHour x_shoresRead x_bestsDone x_keptAtShore m_page m_pageMany m_heightMany m_stairs m_hourNow m_bargeAt m_shoresRead m_levels m_heights m_things m_rows m_done m_markHour m_markMany m_marks m_keptShore m_keptThings m_keptBarge m_keptHour m_keptMarkHour m_keptMarkMany m_keptRows m_keptMarks := by
  obtain ⟨⟨e1, e2, e3, e4, e5, e6, e7, e8, e9, e10⟩, hB, hP, hG, hT, hM, hK, hW, hW2⟩ := h
  subst e1 e2 e3 e4 e5 e6 e7 e8 e9 e10
  obtain ⟨b1, b2, b3, b4, b5, b6, b7, b8, b9, b10, b11⟩ := id hB
  refine ⟨?_, ⟨rfl, rfl, rfl, rfl, rfl, rfl, rfl, rfl, rfl, rfl⟩, hB.up, hP, hG, hT, hM, hK.up, hW, hW2⟩
  unfold fX5_cell fX6_cell
  rcases y_cellz x1 with ⟨a, c⟩ | ⟨a, c, c0, c1⟩
  · rw [if_pos a, if_pos c]
  · rw [if_neg (show ¬ fX5_isCell x1 = 0 by rw [a]; decide), if_neg (show ¬ fX6_isCell x1 = 0 by rw [c]; decide)]
    simp only [Int32.lt_iff_toInt_lt, Int32.le_iff_toInt_le, Int32.reduceToInt]
    rcases y_inz x2 0 3 with ⟨q, r⟩ | ⟨q, r0, r1⟩
    · have r' : x2.toInt < 0 ∨ 3 < x2.toInt := r
      rw [if_pos q]
      by_cases g : x2.toInt < 0
      · rw [if_pos g]
      · rw [if_neg g, if_neg (by omega)]
    · have r0' : 0 ≤ x2.toInt := r0
      have r1' : x2.toInt ≤ 3 := r1
      rw [if_neg (show ¬ fX6_in x2.toInt64 0 3 = 0 by rw [q]; decide), if_neg (show ¬ x2.toInt < 0 by omega), if_pos r1']
      rcases y_has b11 with ⟨a', c', _⟩ | ⟨a', c', s1, h2⟩
      · rw [if_pos a', if_neg (show ¬ fX6_lacks x_ground_heightCount = 0 by rw [c']; decide)]
      · rw [if_neg (show ¬ fX5_hasShore x_shoresRead = 0 by rw [a']; decide), if_pos c']
        unfold fX6_tellCell fX5_isDryNow
        have c8 := z_clampN c0
        rw [(hG.1 x1.toNatClampNeg (by omega)).1, y_dry hG (show 1 ≤ x_ground_heightCount.toInt by omega) b6.1 c0 c1 b5.1 b5.2]
        by_cases p0 : x2 = 0
        · rw [if_pos p0, if_pos p0]
        · rw [if_neg p0, if_neg p0]
          by_cases p1 : x2 = 1
          · rw [if_pos p1, if_pos p1]
            unfold fX4_hasStair
            rw [if_neg (show ¬ fX5_isCell x1 = 0 by rw [a]; decide)]
            rcases y_bit1 (jshr x_ground_stairs x1) with e | e
            · rw [e]; rfl
            · rw [e]; rfl
          · rw [if_neg p1, if_neg p1]
            by_cases p2 : x2 = 2
            · rw [if_pos p2, if_pos p2]
            · rw [if_neg p2, if_neg p2]
              exact y_count b4.2 hT 9 0 0 (by decide)
