theorem RT.push {n a b c : Int32} {K P V rows : Nat → Int32} (h : RT n K P V rows) (n0 : 0 ≤ n.toInt) (n8 : n.toInt ≤ 8) (a0 : 0 ≤ a.toInt) (a1 : a.toInt ≤ 4) (b0 : -2 ≤ b.toInt) (b1 : b.toInt ≤ 7) (c0 : 1 ≤ c.toInt) (c1 : c.toInt ≤ 50) : RT (n + 1) (upd K n.toNatClampNeg a) (upd P n.toNatClampNeg b) (upd V n.toNatClampNeg c) (upd (upd (upd rows (4 * n).toNatClampNeg a) (4 * n + 1).toNatClampNeg b) (4 * n + 2).toNatClampNeg c) := by
  obtain ⟨r0, r1, r2⟩ := y_row n0 n8
  have e : (n + 1).toInt = n.toInt + 1 := y_add (by omega) (by omega) (by decide) (by decide)
  have en := z_clampN n0
  rw [r0, r1, r2]
  intro t ht
  unfold upd
  by_cases d : t = n.toNatClampNeg
  · rw [if_pos d, if_pos d, if_pos d, if_neg (by omega), if_neg (by omega), if_pos (by omega), if_neg (by omega), if_pos (by omega), if_pos (by omega)]
    exact ⟨rfl, rfl, rfl, a0, a1, b0, b1, c0, c1⟩
  · rw [if_neg d, if_neg d, if_neg d, if_neg (by omega), if_neg (by omega), if_neg (by omega), if_neg (by omega), if_neg (by omega), if_neg (by omega), if_neg (by omega), if_neg (by omega), if_neg (by omega)]
    exact h t (by omega)
theorem RW.push {n a b c : Int32} {rows : Nat → Int32} (h : RW rows) (n0 : 0 ≤ n.toInt) (n8 : n.toInt ≤ 8) (b1 : b.toInt ≤ 7) : RW (upd (upd (upd rows (4 * n).toNatClampNeg a) (4 * n + 1).toNatClampNeg b) (4 * n + 2).toNatClampNeg c) := by
  obtain ⟨r0, r1, r2⟩ := y_row n0 n8
  rw [r0, r1, r2]
  intro t ht
  unfold upd
  rw [if_neg (by omega)]
  split
  · exact b1
  · rw [if_neg (by omega)]; exact h t ht
theorem s_thing (k : Nat) (x_page_letters : Nat → Int32) (x_page_size : Int32) (x_ground_levels : Nat → Int32) (x_ground_heights : Nat → Int32) (x_ground_heightCount : Int32) (x_ground_stairs : Int32) (x_now_kinds : Nat → Int32) (x_now_places : Nat → Int32) (x_now_worths : Nat → Int32) (x_now_thingCount : Int32) (x_now_barge : Int32) (x_now_hour : Int32) (x_now_markCount : Int32) (x_now_marks : Nat → Int32) (x_now_markHour : Int32) (x_kept_kinds : Nat → Int32) (x_kept_places : Nat → Int32) (x_kept_worths : Nat → Int32) (x_kept_thingCount : Int32) (x_kept_barge : Int32) (x_kept_hour : Int32) (x_kept_markCount : Int32) (x_kept_marks : Nat → Int32) (x_kept_markHour : Int32) (x_shoresRead : Int32) (x_bestsDone : Int32) (x_keptAtShore : Int32) (m_page : Nat → Int32) (m_pageMany : Int32) (m_heightMany : Int32) (m_stairs : Int32) (m_hourNow : Int32) (m_bargeAt : Int32) (m_shoresRead : Int32) (m_levels : Nat → Int32) (m_heights : Nat → Int32) (m_things : Int32) (m_rows : Nat → Int32) (m_done : Int32) (m_markHour : Int32) (m_markMany : Int32) (m_marks : Nat → Int32) (m_keptShore : Int32) (m_keptThings : Int32) (m_keptBarge : Int32) (m_keptHour : Int32) (m_keptMarkHour : Int32) (m_keptMarkMany : Int32) (m_keptRows : Nat → Int32) (m_keptMarks : Nat → Int32) (x1 : Int32) (x2 : Int32) (x3 : Int32) (hk : k ≤ 64) (h : RR k x_page_letters x_page_size x_ground_levels x_ground_heights x_ground_heightCount x_ground_stairs x_now_kinds x_now_places x_now_worths x_now_thingCount x_now_barge x_now_hour x_now_markCount x_now_marks x_now_markHour x_kept_kinds x_kept_places x_kept_worths x_kept_thingCount x_kept_barge x_kept_hour x_kept_markCount x_kept_marks x_kept_markHour x_shoresRead x_bestsDone x_keptAtShore m_page m_pageMany m_heightMany m_stairs m_hourNow m_bargeAt m_shoresRead m_levels m_heights m_things m_rows m_done m_markHour m_markMany m_marks m_keptShore m_keptThings m_keptBarge m_keptHour m_keptMarkHour m_keptMarkMany m_keptRows m_keptMarks) : (fX5_thing x_shoresRead x_now_thingCount x_now_kinds x_now_places x_now_worths x1 x2 x3).1 = (fX6_thing m_heightMany m_things m_rows x1 x2 x3).1 ∧ RR (k + 1) x_page_letters x_page_size x_ground_levels x_ground_heights x_ground_heightCount x_ground_stairs ((fX5_thing x_shoresRead x_now_thingCount x_now_kinds x_now_places x_now_worths x1 x2 x3).2.1) ((fX5_thing x_shoresRead x_now_thingCount x_now_kinds x_now_places x_now_worths x1 x2 x3).2.2.1) ((fX5_thing x_shoresRead x_now_thingCount x_now_kinds x_now_places x_now_worths x1 x2 x3).2.2.2.1) ((fX5_thing x_shoresRead x_now_thingCount x_now_kinds x_now_places x_now_worths x1 x2 x3).2.2.2.2) x_now_barge x_now_hour x_now_markCount x_now_marks x_now_markHour x_kept_kinds x_kept_places x_kept_worths x_kept_thingCount x_kept_barge x_kept_hour x_kept_markCount x_kept_marks x_kept_markHour x_shoresRead x_bestsDone x_keptAtShore m_page m_pageMany m_heightMany m_stairs m_hourNow m_bargeAt m_shoresRead m_levels m_heights ((fX6_thing m_heightMany m_things m_rows x1 x2 x3).2.1) ((fX6_thing m_heightMany m_things m_rows x1 x2 x3).2.2) m_done m_markHour m_markMany m_marks m_keptShore m_keptThings m_keptBarge m_keptHour m_keptMarkHour m_keptMarkMany m_keptRows m_keptMarks := by
  obtain ⟨⟨e1, e2, e3, e4, e5, e6, e7, e8, e9, e10⟩, hB, hP, hG, hT, hM, hK, hW, hW2⟩ := h
  subst e1 e2 e3 e4 e5 e6 e7 e8 e9 e10
  obtain ⟨b1, b2, b3, b4, b5, b6, b7, b8, b9, b10, b11⟩ := id hB
  unfold fX5_thing fX6_thing
  rcases y_cellz x2 with ⟨a, c⟩ | ⟨a, c, c0, c1⟩
  · simp only [if_pos a, if_pos c]
    exact ⟨by first | rfl | trivial, ⟨rfl, rfl, rfl, rfl, rfl, rfl, rfl, rfl, rfl, rfl⟩, hB.up, hP, hG, hT, hM, hK.up, hW, hW2⟩
  · simp only [if_neg (show ¬ fX5_isCell x2 = 0 by rw [a]; decide), if_neg (show ¬ fX6_isCell x2 = 0 by rw [c]; decide)]
    rcases y_kindz x1 with ⟨a2, c2⟩ | ⟨a2, c2, d0, d1⟩
    · simp only [if_pos a2, if_pos c2]
      exact ⟨by first | rfl | trivial, ⟨rfl, rfl, rfl, rfl, rfl, rfl, rfl, rfl, rfl, rfl⟩, hB.up, hP, hG, hT, hM, hK.up, hW, hW2⟩
    · simp only [if_neg (show ¬ fX5_isKind x1 = 0 by rw [a2]; decide), if_neg (show ¬ fX6_in x1.toInt64 0 4 = 0 by rw [c2]; decide)]
      simp only [Int32.lt_iff_toInt_lt, Int32.le_iff_toInt_le, Int32.reduceToInt]
      rcases y_inz x3 1 50 with ⟨q, r⟩ | ⟨q, r0, r1⟩
      · have r' : x3.toInt < 1 ∨ 50 < x3.toInt := r
        simp only [if_pos q]
        by_cases g : x3.toInt < 1
        · simp only [if_pos g]
          exact ⟨by first | rfl | trivial, ⟨rfl, rfl, rfl, rfl, rfl, rfl, rfl, rfl, rfl, rfl⟩, hB.up, hP, hG, hT, hM, hK.up, hW, hW2⟩
        · simp only [if_neg g, if_neg (show ¬ x3.toInt ≤ 50 by omega)]
          exact ⟨by first | rfl | trivial, ⟨rfl, rfl, rfl, rfl, rfl, rfl, rfl, rfl, rfl, rfl⟩, hB.up, hP, hG, hT, hM, hK.up, hW, hW2⟩
      · have r0' : 1 ≤ x3.toInt := r0
        have r1' : x3.toInt ≤ 50 := r1
        simp only [if_neg (show ¬ fX6_in x3.toInt64 1 50 = 0 by rw [q]; decide), if_neg (show ¬ x3.toInt < 1 by omega), if_pos r1']
        rcases y_has b11 with ⟨a, c, _⟩ | ⟨a, c, s1, h2⟩
        · simp only [if_pos a, if_neg (show ¬ fX6_lacks x_ground_heightCount = 0 by rw [c]; decide)]
          exact ⟨by first | rfl | trivial, ⟨rfl, rfl, rfl, rfl, rfl, rfl, rfl, rfl, rfl, rfl⟩, hB.up, hP, hG, hT, hM, hK.up, hW, hW2⟩
        · simp only [if_neg (show ¬ fX5_hasShore x_shoresRead = 0 by rw [a]; decide), if_pos c, fX3_addThing]
          by_cases g : x_now_thingCount.toInt < 8
          · have p : x_now_thingCount < 8 := by rw [Int32.lt_iff_toInt_lt]; exact g
            have p2 : ¬ x_now_thingCount = 8 := by intro e; rw [e] at g; exact absurd g (by decide)
            simp only [if_pos p, if_neg p2]
            obtain ⟨u1, u2, u3, u4, u5, u6, u7, u8, u9, u10, u11⟩ := hB.up
            have e : (x_now_thingCount + 1).toInt = x_now_thingCount.toInt + 1 := y_add (by omega) (by omega) (by decide) (by decide)
            have e2 : x_now_thingCount = x_now_thingCount + 1 - 1 := (Int32.add_sub_cancel _ _).symm
            exact ⟨e2, ⟨rfl, rfl, rfl, rfl, rfl, rfl, rfl, rfl, rfl, rfl⟩, ⟨u1, u2, u3, ⟨by omega, by omega⟩, u5, u6, u7, u8, u9, u10, Or.inr ⟨s1, h2⟩⟩, hP, hG, hT.push b4.1 b4.2 d0 d1 (by omega) c1 r0' r1', hM, hK.up, hW.push b4.1 b4.2 c1, hW2⟩
          · have p : ¬ x_now_thingCount < 8 := by rw [Int32.lt_iff_toInt_lt]; exact g
            have p2 : x_now_thingCount = 8 := Int32.toInt_inj.mp (by have e : (8 : Int32).toInt = 8 := rfl; omega)
            simp only [if_neg p, if_pos p2]
            exact ⟨by first | rfl | trivial, ⟨rfl, rfl, rfl, rfl, rfl, rfl, rfl, rfl, rfl, rfl⟩, hB.up, hP, hG, hT, hM, hK.up, hW, hW2⟩
