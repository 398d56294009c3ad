theorem y_thing {n x : Int32} (n0 : 0 ≤ n.toInt) (n8 : n.toInt ≤ 8) : (fX3_isThing n x = 0 ∧ fX6_isThing n x = 0) ∨ (fX3_isThing n x = 1 ∧ fX6_isThing n x = 1 ∧ 0 ≤ x.toInt ∧ x.toInt < n.toInt) := by
  have e : (n - 1).toInt = n.toInt - 1 := by
    rw [Int32.toInt_sub]; have o : (1 : Int32).toInt = 1 := rfl; rw [o]; simp only [Int.bmod, Nat.reducePow]; omega
  have e64 : ((n - 1).toInt64).toInt = n.toInt - 1 := by rw [Int32.toInt_toInt64, e]
  have z64 : (0 : Int64).toInt = 0 := rfl
  unfold fX3_isThing fX6_isThing
  simp only [Int32.lt_iff_toInt_lt, Int32.le_iff_toInt_le, Int32.reduceToInt]
  rcases y_inz x 0 ((n - 1).toInt64) with ⟨q, r⟩ | ⟨q, r0, r1⟩
  · rw [z64, e64] at r
    left
    refine ⟨?_, q⟩
    by_cases c : x.toInt < 0
    · rw [if_pos c]
    · rw [if_neg c, if_pos (by omega)]
  · rw [z64] at r0; rw [e64] at r1
    right
    rw [if_neg (by omega), if_neg (by omega)]
    exact ⟨rfl, q, r0, by omega⟩
theorem y_kindz (x : Int32) : (fX5_isKind x = 0 ∧ fX6_in x.toInt64 0 4 = 0) ∨ (fX5_isKind x = 1 ∧ fX6_in x.toInt64 0 4 = 1 ∧ 0 ≤ x.toInt ∧ x.toInt ≤ 4) := by
  unfold fX5_isKind
  simp only [Int32.lt_iff_toInt_lt, Int32.le_iff_toInt_le, Int32.reduceToInt]
  rcases y_inz x 0 4 with ⟨q, r⟩ | ⟨q, r0, r1⟩
  · have r' : x.toInt < 0 ∨ 4 < x.toInt := r
    left
    refine ⟨?_, q⟩
    by_cases c : x.toInt < 0
    · rw [if_pos c]
    · rw [if_neg c, if_pos (by omega)]
  · have r0' : 0 ≤ x.toInt := r0
    have r1' : x.toInt ≤ 4 := r1
    right
    rw [if_neg (by omega), if_neg (by omega)]
    exact ⟨rfl, q, r0', r1'⟩
theorem s_as (k : Nat) (x_page_letters : Nat → Int32) (x_page_size : Int32) (x_ground_levels : Nat → Int32) (x_ground_heights : Nat → Int32) (x_ground_heightCount : Int32) (x_ground_stairs : Int32) (x_now_kinds : Nat → Int32) (x_now_places : Nat → Int32) (x_now_worths : Nat → Int32) (x_now_thingCount : Int32) (x_now_barge : Int32) (x_now_hour : Int32) (x_now_markCount : Int32) (x_now_marks : Nat → Int32) (x_now_markHour : Int32) (x_kept_kinds : Nat → Int32) (x_kept_places : Nat → Int32) (x_kept_worths : Nat → Int32) (x_kept_thingCount : Int32) (x_kept_barge : Int32) (x_kept_hour : Int32) (x_kept_markCount : Int32) (x_kept_marks : Nat → Int32) (x_kept_markHour : Int32) (x_shoresRead : Int32) (x_bestsDone : Int32) (x_keptAtShore : Int32) (m_page : Nat → Int32) (m_pageMany : Int32) (m_heightMany : Int32) (m_stairs : Int32) (m_hourNow : Int32) (m_bargeAt : Int32) (m_shoresRead : Int32) (m_levels : Nat → Int32) (m_heights : Nat → Int32) (m_things : Int32) (m_rows : Nat → Int32) (m_done : Int32) (m_markHour : Int32) (m_markMany : Int32) (m_marks : Nat → Int32) (m_keptShore : Int32) (m_keptThings : Int32) (m_keptBarge : Int32) (m_keptHour : Int32) (m_keptMarkHour : Int32) (m_keptMarkMany : Int32) (m_keptRows : Nat → Int32) (m_keptMarks : Nat → Int32) (x1 : Int32) (x2 : Int32) (hk : k ≤ 64) (h : RR k x_page_letters x_page_size x_ground_levels x_ground_heights x_ground_heightCount x_ground_stairs x_now_kinds x_now_places x_now_worths x_now_thingCount x_now_barge x_now_hour x_now_markCount x_now_marks x_now_markHour x_kept_kinds x_kept_places x_kept_worths x_kept_thingCount x_kept_barge x_kept_hour x_kept_markCount x_kept_marks x_kept_markHour x_shoresRead x_bestsDone x_keptAtShore m_page m_pageMany m_heightMany m_stairs m_hourNow m_bargeAt m_shoresRead m_levels m_heights m_things m_rows m_done m_markHour m_markMany m_marks m_keptShore m_keptThings m_keptBarge m_keptHour m_keptMarkHour m_keptMarkMany m_keptRows m_keptMarks) : (fX5_as x_now_thingCount x_now_kinds x1 x2) = (fX6_as m_things m_rows x1 x2) ∧ RR (k + 1) x_page_letters x_page_size x_ground_levels x_ground_heights x_ground_heightCount x_ground_stairs x_now_kinds x_now_places x_now_worths x_now_thingCount x_now_barge x_now_hour x_now_markCount x_now_marks x_now_markHour x_kept_kinds x_kept_places x_kept_worths x_kept_thingCount x_kept_barge x_kept_hour x_kept_markCount x_kept_marks x_kept_markHour x_shoresRead x_bestsDone x_keptAtShore m_page m_pageMany m_heightMany m_stairs m_hourNow m_bargeAt m_shoresRead m_levels m_heights m_things m_rows m_done m_markHour m_markMany m_marks m_keptShore m_keptThings m_keptBarge m_keptHour m_keptMarkHour m_keptMarkMany m_keptRows m_keptMarks := by
  obtain ⟨⟨e1, e2, e3, e4, e5, e6, e7, e8, e9, e10⟩, hB, hP, hG, hT, hM, hK, hW, hW2⟩ := h
  subst e1 e2 e3 e4 e5 e6 e7 e8 e9 e10
  obtain ⟨b1, b2, b3, b4, b5, b6, b7, b8, b9, b10, b11⟩ := id hB
  refine ⟨?_, ⟨rfl, rfl, rfl, rfl, rfl, rfl, rfl, rfl, rfl, rfl⟩, hB.up, hP, hG, hT, hM, hK.up, hW, hW2⟩
  unfold fX5_as fX6_as
  rcases y_thing (x := x1) b4.1 b4.2 with ⟨a, c⟩ | ⟨a, c, c0, c1⟩
  · rw [if_pos a, if_pos c]
  · rw [if_neg (show ¬ fX3_isThing x_now_thingCount x1 = 0 by rw [a]; decide), if_neg (show ¬ fX6_isThing x_now_thingCount x1 = 0 by rw [c]; decide)]
    rcases y_kindz x2 with ⟨a2, c2⟩ | ⟨a2, c2, d0, d1⟩
    · rw [if_pos a2, if_pos c2]
    · rw [if_neg (show ¬ fX5_isKind x2 = 0 by rw [a2]; decide), if_neg (show ¬ fX6_in x2.toInt64 0 4 = 0 by rw [c2]; decide)]
      obtain ⟨r0, _⟩ := hT.at c0 c1 (by omega)
      rw [← r0]
      unfold fX5_isOfKind
      by_cases p1 : x2 = 0
      · rw [if_pos p1, if_pos p1]; rfl
      · rw [if_neg p1, if_neg p1]
        by_cases p2 : x2 = x_now_kinds x1.toNatClampNeg
        · rw [if_pos p2, if_pos p2]; rfl
        · rw [if_neg p2, if_neg p2]
          by_cases p3 : x2 = 1
          · rw [if_pos p3, if_pos p3]
            by_cases p4 : x_now_kinds x1.toNatClampNeg = 4
            · rw [if_pos p4, if_pos p4]; rfl
            · rw [if_neg p4, if_neg p4]; rfl
          · rw [if_neg p3, if_neg p3]; rfl
