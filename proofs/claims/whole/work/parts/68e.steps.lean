theorem s_about (k : Nat) (x_page_letters : Nat → Int32) (x_page_size : Int32) (x_ground_levels : Nat → Int32) (x_ground_heights : Nat → Int32) (x_ground_heightCount : Int32) (x_ground_stairs : Int32) (x_now_kinds : Nat → Int32) (x_now_places : Nat → Int32) (x_now_worths : Nat → Int32) (x_now_thingCount : Int32) (x_now_barge : Int32) (x_now_hour : Int32) (x_now_markCount : Int32) (x_now_marks : Nat → Int32) (x_now_markHour : Int32) (x_kept_kinds : Nat → Int32) (x_kept_places : Nat → Int32) (x_kept_worths : Nat → Int32) (x_kept_thingCount : Int32) (x_kept_barge : Int32) (x_kept_hour : Int32) (x_kept_markCount : Int32) (x_kept_marks : Nat → Int32) (x_kept_markHour : Int32) (x_shoresRead : Int32) (x_bestsDone : Int32) (x_keptAtShore : Int32) (m_page : Nat → Int32) (m_pageMany : Int32) (m_heightMany : Int32) (m_stairs : Int32) (m_hourNow : Int32) (m_bargeAt : Int32) (m_shoresRead : Int32) (m_levels : Nat → Int32) (m_heights : Nat → Int32) (m_things : Int32) (m_rows : Nat → Int32) (m_done : Int32) (m_markHour : Int32) (m_markMany : Int32) (m_marks : Nat → Int32) (m_keptShore : Int32) (m_keptThings : Int32) (m_keptBarge : Int32) (m_keptHour : Int32) (m_keptMarkHour : Int32) (m_keptMarkMany : Int32) (m_keptRows : Nat → Int32) (m_keptMarks : Nat → Int32) (x1 : Int32) (x2 : Int32) (hk : k ≤ 64) (h : RR k x_page_letters x_page_size x_ground_levels x_ground_heights x_ground_heightCount x_ground_stairs x_now_kinds x_now_places x_now_worths x_now_thingCount x_now_barge x_now_hour x_now_markCount x_now_marks x_now_markHour x_kept_kinds x_kept_places x_kept_worths x_kept_thingCount x_kept_barge x_kept_hour x_kept_markCount x_kept_marks x_kept_markHour x_shoresRead x_bestsDone x_keptAtShore m_page m_pageMany m_heightMany m_stairs m_hourNow m_bargeAt m_shoresRead m_levels m_heights m_things m_rows m_done m_markHour m_markMany m_marks m_keptShore m_keptThings m_keptBarge m_keptHour m_keptMarkHour m_keptMarkMany m_keptRows m_keptMarks) : (fX5_about x_ground_stairs x_now_thingCount x_now_kinds x_now_places x_now_worths x1 x2) = (fX6_about m_stairs m_things m_rows x1 x2) ∧ RR (k + 1) x_page_letters x_page_size x_ground_levels x_ground_heights x_ground_heightCount x_ground_stairs x_now_kinds x_now_places x_now_worths x_now_thingCount x_now_barge x_now_hour x_now_markCount x_now_marks x_now_markHour x_kept_kinds x_kept_places x_kept_worths x_kept_thingCount x_kept_barge x_kept_hour x_kept_markCount x_kept_marks x_kept_markHour x_shoresRead x_bestsDone x_keptAtShore m_page m_pageMany m_heightMany m_stairs m_hourNow m_bargeAt m_shoresRead m_levels m_heights m_things m_rows m_done m_markHour m_markMany m_marks m_keptShore m_keptThings m_keptBarge m_keptHour m_keptMarkHour m_keptMarkMany m_keptRows m_keptMarks := by
  obtain ⟨⟨e1, e2, e3, e4, e5, e6, e7, e8, e9, e10⟩, hB, hP, hG, hT, hM, hK, hW, hW2⟩ := h
  subst e1 e2 e3 e4 e5 e6 e7 e8 e9 e10
  obtain ⟨b1, b2, b3, b4, b5, b6, b7, b8, b9, b10, b11⟩ := id hB
  refine ⟨?_, ⟨rfl, rfl, rfl, rfl, rfl, rfl, rfl, rfl, rfl, rfl⟩, hB.up, hP, hG, hT, hM, hK.up, hW, hW2⟩
  unfold fX5_about fX6_about
  rcases y_thing (x := x1) b4.1 b4.2 with ⟨a, c⟩ | ⟨a, c, c0, c1⟩
  · rw [if_pos a, if_pos c]
  · rw [if_neg (show ¬ fX3_isThing x_now_thingCount x1 = 0 by rw [a]; decide), if_neg (show ¬ fX6_isThing x_now_thingCount x1 = 0 by rw [c]; decide)]
    obtain ⟨r0, r1, r2, r3, r4, r5, r6, r7, r8⟩ := hT.at c0 c1 (by omega)
    unfold fX6_tell
    by_cases p3 : x2 = 3
    · subst p3
      rw [if_neg (by decide), if_neg (by decide), if_neg (by decide), if_pos rfl, if_pos rfl, ← r1]
      by_cases g : 0 ≤ x_now_places x1.toNatClampNeg
      · rw [if_pos g]
        rw [Int32.le_iff_toInt_le] at g
        exact y_near g r6 b3.1 b3.2
      · rw [if_neg g]
        rw [Int32.le_iff_toInt_le] at g
        have e0 : (0 : Int32).toInt = 0 := rfl
        unfold fX4_nearestStair
        rw [if_pos (y_cell0 (Or.inl (by omega)))]
    · rw [if_neg p3]
      by_cases p0 : x2 = 0
      · subst p0
        rw [if_pos rfl, if_neg (by decide), Int32.add_zero]; exact r0
      · rw [if_neg p0]
        by_cases p1 : x2 = 1
        · subst p1
          rw [if_pos rfl, if_neg (by decide)]; exact r1
        · rw [if_neg p1]
          by_cases p2 : x2 = 2
          · subst p2
            rw [if_pos rfl, if_neg (by decide)]; exact r2
          · rw [if_neg p2, if_neg p3]
            rcases y_inz x2 0 2 with ⟨q, r⟩ | ⟨q, q0, q1⟩
            · rw [if_pos q]
            · exfalso
              have q0' : 0 ≤ x2.toInt := q0
              have q1' : x2.toInt ≤ 2 := q1
              have d0 : ¬ x2.toInt = (0 : Int32).toInt := fun e => p0 (Int32.toInt_inj.mp e)
              have d1 : ¬ x2.toInt = (1 : Int32).toInt := fun e => p1 (Int32.toInt_inj.mp e)
              have d2 : ¬ x2.toInt = (2 : Int32).toInt := fun e => p2 (Int32.toInt_inj.mp e)
              simp only [Int32.reduceToInt] at d0 d1 d2
              omega
