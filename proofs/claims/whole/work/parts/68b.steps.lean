theorem y_take {tC x : Int32} {K V : Nat → Int32} (t8 : tC.toInt ≤ 8) : ∀ (n : Nat) (i c : Int32) (P rows : Nat → Int32), RT tC K P V rows → RW rows → 0 ≤ i.toInt → i.toInt ≤ tC.toInt → tC.toInt - i.toInt < n → (fX3_takeAllIn_l4 tC V x n i c P).1 = (fX6_take_l40 tC x n i c rows).1 ∧ RT tC K (fX3_takeAllIn_l4 tC V x n i c P).2 V (fX6_take_l40 tC x n i c rows).2 ∧ RW (fX6_take_l40 tC x n i c rows).2 := by
  intro n
  induction n with
  | zero => intro i c P rows hT hW i0 it hf; exfalso; omega
  | succ n ih =>
    intro i c P rows hT hW i0 it hf
    rw [fX3_takeAllIn_l4, fX6_take_l40]
    by_cases q : tC ≤ i
    · rw [if_pos q, if_pos q]; exact ⟨rfl, hT, hW⟩
    · rw [if_neg q, if_neg q]
      rw [Int32.le_iff_toInt_le] at q
      obtain ⟨r0, r1, r2, r3, r4, r5, r6, r7, r8⟩ := hT.at i0 (by omega) (by omega)
      have ei : (i + 1).toInt = i.toInt + 1 := y_add (by omega) (by omega) (by decide) (by decide)
      simp only [← r1, ← r2]
      by_cases d : P i.toNatClampNeg = x
      · simp only [if_pos d]
        exact ih (i + 1) _ _ _ (hT.put i0 (by omega) (by decide) (by decide)) (z_RWupd hW (by decide)) (by omega) (by omega) (by omega)
      · simp only [if_neg d]
        exact ih (i + 1) _ _ _ hT hW (by omega) (by omega) (by omega)
theorem s_take (k : Nat) (x_page_letters : Nat → Int32) (x_page_size : Int32) (x_ground_levels : Nat → Int32) (x_ground_heights : Nat → Int32) (x_ground_heightCount : Int32) (x_ground_stairs : Int32) (x_now_kinds : Nat → Int32) (x_now_places : Nat → Int32) (x_now_worths : Nat → Int32) (x_now_thingCount : Int32) (x_now_barge : Int32) (x_now_hour : Int32) (x_now_markCount : Int32) (x_now_marks : Nat → Int32) (x_now_markHour : Int32) (x_kept_kinds : Nat → Int32) (x_kept_places : Nat → Int32) (x_kept_worths : Nat → Int32) (x_kept_thingCount : Int32) (x_kept_barge : Int32) (x_kept_hour : Int32) (x_kept_markCount : Int32) (x_kept_marks : Nat → Int32) (x_kept_markHour : Int32) (x_shoresRead : Int32) (x_bestsDone : Int32) (x_keptAtShore : Int32) (m_page : Nat → Int32) (m_pageMany : Int32) (m_heightMany : Int32) (m_stairs : Int32) (m_hourNow : Int32) (m_bargeAt : Int32) (m_shoresRead : Int32) (m_levels : Nat → Int32) (m_heights : Nat → Int32) (m_things : Int32) (m_rows : Nat → Int32) (m_done : Int32) (m_markHour : Int32) (m_markMany : Int32) (m_marks : Nat → Int32) (m_keptShore : Int32) (m_keptThings : Int32) (m_keptBarge : Int32) (m_keptHour : Int32) (m_keptMarkHour : Int32) (m_keptMarkMany : Int32) (m_keptRows : Nat → Int32) (m_keptMarks : Nat → Int32) (x1 : Int32) (hk : k ≤ 64) (h : RR k x_page_letters x_page_size x_ground_levels x_ground_heights x_ground_heightCount x_ground_stairs x_now_kinds x_now_places x_now_worths x_now_thingCount x_now_barge x_now_hour x_now_markCount x_now_marks x_now_markHour x_kept_kinds x_kept_places x_kept_worths x_kept_thingCount x_kept_barge x_kept_hour x_kept_markCount x_kept_marks x_kept_markHour x_shoresRead x_bestsDone x_keptAtShore m_page m_pageMany m_heightMany m_stairs m_hourNow m_bargeAt m_shoresRead m_levels m_heights m_things m_rows m_done m_markHour m_markMany m_marks m_keptShore m_keptThings m_keptBarge m_keptHour m_keptMarkHour m_keptMarkMany m_keptRows m_keptMarks) : (fX5_take x_shoresRead x_ground_heightCount x_ground_levels x_ground_heights x_now_thingCount x_now_barge x_now_hour x_now_places x_now_worths x1).1 = (fX6_take m_heightMany m_hourNow m_bargeAt m_things m_levels m_heights m_rows x1).1 ∧ RR (k + 1) x_page_letters x_page_size x_ground_levels x_ground_heights x_ground_heightCount x_ground_stairs x_now_kinds ((fX5_take x_shoresRead x_ground_heightCount x_ground_levels x_ground_heights x_now_thingCount x_now_barge x_now_hour x_now_places x_now_worths x1).2) x_now_worths x_now_thingCount x_now_barge x_now_hour x_now_markCount x_now_marks x_now_markHour x_kept_kinds x_kept_places x_kept_worths x_kept_thingCount x_kept_barge x_kept_hour x_kept_markCount x_kept_marks x_kept_markHour x_shoresRead x_bestsDone x_keptAtShore m_page m_pageMany m_heightMany m_stairs m_hourNow m_bargeAt m_shoresRead m_levels m_heights m_things ((fX6_take m_heightMany m_hourNow m_bargeAt m_things m_levels m_heights m_rows x1).2) m_done m_markHour m_markMany m_marks m_keptShore m_keptThings m_keptBarge m_keptHour m_keptMarkHour m_keptMarkMany m_keptRows m_keptMarks := by
  obtain ⟨⟨e1, e2, e3, e4, e5, e6, e7, e8, e9, e10⟩, hB, hP, hG, hT, hM, hK, hW, hW2⟩ := h
  subst e1 e2 e3 e4 e5 e6 e7 e8 e9 e10
  obtain ⟨b1, b2, b3, b4, b5, b6, b7, b8, b9, b10, b11⟩ := id hB
  unfold fX5_take fX6_take
  rcases y_cellz x1 with ⟨a, c⟩ | ⟨a, c, c0, c1⟩
  · simp only [if_pos a, if_pos c]
    exact ⟨by first | rfl | trivial, ⟨rfl, rfl, rfl, rfl, rfl, rfl, rfl, rfl, rfl, rfl⟩, hB.up, hP, hG, hT, hM, hK.up, hW, hW2⟩
  · simp only [if_neg (show ¬ fX5_isCell x1 = 0 by rw [a]; decide), if_neg (show ¬ fX6_isCell x1 = 0 by rw [c]; decide)]
    rcases y_has b11 with ⟨a, c, _⟩ | ⟨a, c, s1, h2⟩
    · simp only [if_pos a, if_neg (show ¬ fX6_lacks x_ground_heightCount = 0 by rw [c]; decide)]
      exact ⟨by first | rfl | trivial, ⟨rfl, rfl, rfl, rfl, rfl, rfl, rfl, rfl, rfl, rfl⟩, hB.up, hP, hG, hT, hM, hK.up, hW, hW2⟩
    · simp only [if_neg (show ¬ fX5_hasShore x_shoresRead = 0 by rw [a]; decide), if_pos c, fX3_takeAllIn, fX3_takeAllIn_x4, fX6_take_x40]
      have ed : fX5_isDryNow x_ground_heightCount x_ground_levels x_ground_heights x_now_barge x_now_hour x1 = fX6_isDry x_ground_heightCount m_levels m_heights x1 x_now_hour x_now_barge := y_dry hG (show 1 ≤ x_ground_heightCount.toInt by omega) b6.1 c0 c1 b5.1 b5.2
      by_cases d : fX5_isDryNow x_ground_heightCount x_ground_levels x_ground_heights x_now_barge x_now_hour x1 = 0
      · have d' := d
        rw [ed] at d'
        simp only [if_pos d, if_pos d']
        exact ⟨by first | rfl | trivial, ⟨rfl, rfl, rfl, rfl, rfl, rfl, rfl, rfl, rfl, rfl⟩, hB.up, hP, hG, hT, hM, hK.up, hW, hW2⟩
      · have d' := d
        rw [ed] at d'
        simp only [if_neg d, if_neg d']
        obtain ⟨q1, q2, q3⟩ := y_take (tC := x_now_thingCount) (x := x1) b4.2 9 0 0 _ _ hT hW (by decide) b4.1 (by have e0 : (0 : Int32).toInt = 0 := rfl; omega)
        exact ⟨q1, ⟨rfl, rfl, rfl, rfl, rfl, rfl, rfl, rfl, rfl, rfl⟩, hB.up, hP, hG, q2, hM, hK.up, q3, hW2⟩
