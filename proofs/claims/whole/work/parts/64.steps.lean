theorem y_bell {hc hr x : Int32} {L L' T T' : Nat → Int32} (hG : RG hc L L' T T') (h1 : 1 ≤ hc.toInt) (h2 : hc.toInt ≤ 12) (r0 : 0 ≤ hr.toInt) (r1 : hr.toInt ≤ 1000) : ∀ (n : Nat) (i : Int32), 0 ≤ i.toInt → fX5_bell_l25 hc T hr x n i = fX6_bell_l27 hc hr T' x n i := by
  intro n
  induction n with
  | zero => intro i _; rw [fX5_bell_l25, fX6_bell_l27]
  | succ n ih =>
    intro i hi
    rw [fX5_bell_l25, fX6_bell_l27]
    by_cases c : hc ≤ i
    · rw [if_pos c, if_pos c]
    · rw [if_neg c, if_neg c]
      rw [Int32.le_iff_toInt_le] at c
      rw [y_height (h := hr + i) (by rw [y_add (by omega) (by omega) (by omega) (by omega)]; omega) h1 hG.2]
      have e : (i + 1).toInt = i.toInt + 1 := y_add (by omega) (by omega) (by decide) (by decide)
      rw [ih (i + 1) (by omega)]
theorem s_blank (k : Nat) (x_page_letters : Nat → Int32) (x_page_size : Int32) (x_ground_levels : Nat → Int32) (x_ground_heights : Nat → Int32) (x_ground_heightCount : Int32) (x_ground_stairs : Int32) (x_now_kinds : Nat → Int32) (x_now_places : Nat → Int32) (x_now_worths : Nat → Int32) (x_now_thingCount : Int32) (x_now_barge : Int32) (x_now_hour : Int32) (x_now_markCount : Int32) (x_now_marks : Nat → Int32) (x_now_markHour : Int32) (x_kept_kinds : Nat → Int32) (x_kept_places : Nat → Int32) (x_kept_worths : Nat → Int32) (x_kept_thingCount : Int32) (x_kept_barge : Int32) (x_kept_hour : Int32) (x_kept_markCount : Int32) (x_kept_marks : Nat → Int32) (x_kept_markHour : Int32) (x_shoresRead : Int32) (x_bestsDone : Int32) (x_keptAtShore : Int32) (m_page : Nat → Int32) (m_pageMany : Int32) (m_heightMany : Int32) (m_stairs : Int32) (m_hourNow : Int32) (m_bargeAt : Int32) (m_shoresRead : Int32) (m_levels : Nat → Int32) (m_heights : Nat → Int32) (m_things : Int32) (m_rows : Nat → Int32) (m_done : Int32) (m_markHour : Int32) (m_markMany : Int32) (m_marks : Nat → Int32) (m_keptShore : Int32) (m_keptThings : Int32) (m_keptBarge : Int32) (m_keptHour : Int32) (m_keptMarkHour : Int32) (m_keptMarkMany : Int32) (m_keptRows : Nat → Int32) (m_keptMarks : Nat → Int32) (hk : k ≤ 64) (h : RR k x_page_letters x_page_size x_ground_levels x_ground_heights x_ground_heightCount x_ground_stairs x_now_kinds x_now_places x_now_worths x_now_thingCount x_now_barge x_now_hour x_now_markCount x_now_marks x_now_markHour x_kept_kinds x_kept_places x_kept_worths x_kept_thingCount x_kept_barge x_kept_hour x_kept_markCount x_kept_marks x_kept_markHour x_shoresRead x_bestsDone x_keptAtShore m_page m_pageMany m_heightMany m_stairs m_hourNow m_bargeAt m_shoresRead m_levels m_heights m_things m_rows m_done m_markHour m_markMany m_marks m_keptShore m_keptThings m_keptBarge m_keptHour m_keptMarkHour m_keptMarkMany m_keptRows m_keptMarks) : (fX5_blank x_page_size).1 = (fX6_blank m_pageMany).1 ∧ RR (k + 1) x_page_letters ((fX5_blank x_page_size).2) x_ground_levels x_ground_heights x_ground_heightCount x_ground_stairs x_now_kinds x_now_places x_now_worths x_now_thingCount x_now_barge x_now_hour x_now_markCount x_now_marks x_now_markHour x_kept_kinds x_kept_places x_kept_worths x_kept_thingCount x_kept_barge x_kept_hour x_kept_markCount x_kept_marks x_kept_markHour x_shoresRead x_bestsDone x_keptAtShore m_page ((fX6_blank m_pageMany).2) m_heightMany m_stairs m_hourNow m_bargeAt m_shoresRead m_levels m_heights m_things m_rows m_done m_markHour m_markMany m_marks m_keptShore m_keptThings m_keptBarge m_keptHour m_keptMarkHour m_keptMarkMany m_keptRows m_keptMarks := by
  obtain ⟨⟨e1, e2, e3, e4, e5, e6, e7, e8, e9, e10⟩, hB, hP, hG, hT, hM, hK, hW, hW2⟩ := h
  subst e1 e2 e3 e4 e5 e6 e7 e8 e9 e10
  obtain ⟨b1, b2, b3, b4, b5, b6, b7, b8, b9, b10, b11⟩ := id hB
  refine ⟨rfl, ⟨rfl, rfl, rfl, rfl, rfl, rfl, rfl, rfl, rfl, rfl⟩, ?_, ?_, hG, hT, hM, hK.up, hW, hW2⟩
  · obtain ⟨c1, c2⟩ := hB.up
    exact ⟨⟨(by decide : (0 : Int) ≤ (0 : Int32).toInt), (by decide : (0 : Int32).toInt ≤ (32 : Int))⟩, c2⟩
  · intro j hj; exact absurd hj (by have e : (fX5_blank x_page_size).2.toInt = 0 := rfl; omega)

theorem s_tide (k : Nat) (x_page_letters : Nat → Int32) (x_page_size : Int32) (x_ground_levels : Nat → Int32) (x_ground_heights : Nat → Int32) (x_ground_heightCount : Int32) (x_ground_stairs : Int32) (x_now_kinds : Nat → Int32) (x_now_places : Nat → Int32) (x_now_worths : Nat → Int32) (x_now_thingCount : Int32) (x_now_barge : Int32) (x_now_hour : Int32) (x_now_markCount : Int32) (x_now_marks : Nat → Int32) (x_now_markHour : Int32) (x_kept_kinds : Nat → Int32) (x_kept_places : Nat → Int32) (x_kept_worths : Nat → Int32) (x_kept_thingCount : Int32) (x_kept_barge : Int32) (x_kept_hour : Int32) (x_kept_markCount : Int32) (x_kept_marks : Nat → Int32) (x_kept_markHour : Int32) (x_shoresRead : Int32) (x_bestsDone : Int32) (x_keptAtShore : Int32) (m_page : Nat → Int32) (m_pageMany : Int32) (m_heightMany : Int32) (m_stairs : Int32) (m_hourNow : Int32) (m_bargeAt : Int32) (m_shoresRead : Int32) (m_levels : Nat → Int32) (m_heights : Nat → Int32) (m_things : Int32) (m_rows : Nat → Int32) (m_done : Int32) (m_markHour : Int32) (m_markMany : Int32) (m_marks : Nat → Int32) (m_keptShore : Int32) (m_keptThings : Int32) (m_keptBarge : Int32) (m_keptHour : Int32) (m_keptMarkHour : Int32) (m_keptMarkMany : Int32) (m_keptRows : Nat → Int32) (m_keptMarks : Nat → Int32) (x1 : Int32) (hk : k ≤ 64) (h : RR k x_page_letters x_page_size x_ground_levels x_ground_heights x_ground_heightCount x_ground_stairs x_now_kinds x_now_places x_now_worths x_now_thingCount x_now_barge x_now_hour x_now_markCount x_now_marks x_now_markHour x_kept_kinds x_kept_places x_kept_worths x_kept_thingCount x_kept_barge x_kept_hour x_kept_markCount x_kept_marks x_kept_markHour x_shoresRead x_bestsDone x_keptAtShore m_page m_pageMany m_heightMany m_stairs m_hourNow m_bargeAt m_shoresRead m_levels m_heights m_things m_rows m_done m_markHour m_markMany m_marks m_keptShore m_keptThings m_keptBarge m_keptHour m_keptMarkHour m_keptMarkMany m_keptRows m_keptMarks) : (fX5_tide x_shoresRead x_ground_heightCount x_ground_heights x_now_hour x1) = (fX6_tide m_heightMany m_hourNow m_heights x1) ∧ RR (k + 1) x_page_letters x_page_size x_ground_levels x_ground_heights x_ground_heightCount x_ground_stairs x_now_kinds x_now_places x_now_worths x_now_thingCount x_now_barge x_now_hour x_now_markCount x_now_marks x_now_markHour x_kept_kinds x_kept_places x_kept_worths x_kept_thingCount x_kept_barge x_kept_hour x_kept_markCount x_kept_marks x_kept_markHour x_shoresRead x_bestsDone x_keptAtShore m_page m_pageMany m_heightMany m_stairs m_hourNow m_bargeAt m_shoresRead m_levels m_heights m_things m_rows m_done m_markHour m_markMany m_marks m_keptShore m_keptThings m_keptBarge m_keptHour m_keptMarkHour m_keptMarkMany m_keptRows m_keptMarks := by
  obtain ⟨⟨e1, e2, e3, e4, e5, e6, e7, e8, e9, e10⟩, hB, hP, hG, hT, hM, hK, hW, hW2⟩ := h
  subst e1 e2 e3 e4 e5 e6 e7 e8 e9 e10
  obtain ⟨b1, b2, b3, b4, b5, b6, b7, b8, b9, b10, b11⟩ := id hB
  refine ⟨?_, ⟨rfl, rfl, rfl, rfl, rfl, rfl, rfl, rfl, rfl, rfl⟩, hB.up, hP, hG, hT, hM, hK.up, hW, hW2⟩
  unfold fX5_tide fX6_tide
  rcases y_inz x1 0 99 with ⟨q, r⟩ | ⟨q, r0, r1⟩
  · have r' : x1.toInt < 0 ∨ 99 < x1.toInt := r
    rw [if_pos q]
    simp only [Int32.lt_iff_toInt_lt, Int32.le_iff_toInt_le, Int32.reduceToInt]
    by_cases c : x1.toInt < 0
    · rw [if_pos c]
    · rw [if_neg c, if_neg (by omega)]
  · have r0' : 0 ≤ x1.toInt := r0
    have r1' : x1.toInt ≤ 99 := r1
    rw [if_neg (show ¬ fX6_in x1.toInt64 0 99 = 0 by rw [q]; decide)]
    simp only [Int32.lt_iff_toInt_lt, Int32.le_iff_toInt_le, Int32.reduceToInt]
    rw [if_neg (by omega : ¬ x1.toInt < 0), if_pos r1']
    rcases y_has b11 with ⟨a, c, _⟩ | ⟨a, c, s1, h2⟩
    · rw [if_pos a, if_neg (by rw [c]; decide)]
    · rw [if_neg (by rw [a]; decide), if_pos c]
      exact y_height (by rw [y_add (by omega) (by omega) (by omega) (by omega)]; omega) (by omega) hG.2

theorem s_bell (k : Nat) (x_page_letters : Nat → Int32) (x_page_size : Int32) (x_ground_levels : Nat → Int32) (x_ground_heights : Nat → Int32) (x_ground_heightCount : Int32) (x_ground_stairs : Int32) (x_now_kinds : Nat → Int32) (x_now_places : Nat → Int32) (x_now_worths : Nat → Int32) (x_now_thingCount : Int32) (x_now_barge : Int32) (x_now_hour : Int32) (x_now_markCount : Int32) (x_now_marks : Nat → Int32) (x_now_markHour : Int32) (x_kept_kinds : Nat → Int32) (x_kept_places : Nat → Int32) (x_kept_worths : Nat → Int32) (x_kept_thingCount : Int32) (x_kept_barge : Int32) (x_kept_hour : Int32) (x_kept_markCount : Int32) (x_kept_marks : Nat → Int32) (x_kept_markHour : Int32) (x_shoresRead : Int32) (x_bestsDone : Int32) (x_keptAtShore : Int32) (m_page : Nat → Int32) (m_pageMany : Int32) (m_heightMany : Int32) (m_stairs : Int32) (m_hourNow : Int32) (m_bargeAt : Int32) (m_shoresRead : Int32) (m_levels : Nat → Int32) (m_heights : Nat → Int32) (m_things : Int32) (m_rows : Nat → Int32) (m_done : Int32) (m_markHour : Int32) (m_markMany : Int32) (m_marks : Nat → Int32) (m_keptShore : Int32) (m_keptThings : Int32) (m_keptBarge : Int32) (m_keptHour : Int32) (m_keptMarkHour : Int32) (m_keptMarkMany : Int32) (m_keptRows : Nat → Int32) (m_keptMarks : Nat → Int32) (x1 : Int32) (hk : k ≤ 64) (h : RR k x_page_letters x_page_size x_ground_levels x_ground_heights x_ground_heightCount x_ground_stairs x_now_kinds x_now_places x_now_worths x_now_thingCount x_now_barge x_now_hour x_now_markCount x_now_marks x_now_markHour x_kept_kinds x_kept_places x_kept_worths x_kept_thingCount x_kept_barge x_kept_hour x_kept_markCount x_kept_marks x_kept_markHour x_shoresRead x_bestsDone x_keptAtShore m_page m_pageMany m_heightMany m_stairs m_hourNow m_bargeAt m_shoresRead m_levels m_heights m_things m_rows m_done m_markHour m_markMany m_marks m_keptShore m_keptThings m_keptBarge m_keptHour m_keptMarkHour m_keptMarkMany m_keptRows m_keptMarks) : (fX5_bell x_shoresRead x_ground_heightCount x_ground_heights x_now_hour x1) = (fX6_bell m_heightMany m_hourNow m_heights x1) ∧ RR (k + 1) x_page_letters x_page_size x_ground_levels x_ground_heights x_ground_heightCount x_ground_stairs x_now_kinds x_now_places x_now_worths x_now_thingCount x_now_barge x_now_hour x_now_markCount x_now_marks x_now_markHour x_kept_kinds x_kept_places x_kept_worths x_kept_thingCount x_kept_barge x_kept_hour x_kept_markCount x_kept_marks x_kept_markHour x_shoresRead x_bestsDone x_keptAtShore m_page m_pageMany m_heightMany m_stairs m_hourNow m_bargeAt m_shoresRead m_levels m_heights m_things m_rows m_done m_markHour m_markMany m_marks m_keptShore m_keptThings m_keptBarge m_keptHour m_keptMarkHour m_keptMarkMany m_keptRows m_keptMarks := by
  obtain ⟨⟨e1, e2, e3, e4, e5, e6, e7, e8, e9, e10⟩, hB, hP, hG, hT, hM, hK, hW, hW2⟩ := h
  subst e1 e2 e3 e4 e5 e6 e7 e8 e9 e10
  obtain ⟨b1, b2, b3, b4, b5, b6, b7, b8, b9, b10, b11⟩ := id hB
  refine ⟨?_, ⟨rfl, rfl, rfl, rfl, rfl, rfl, rfl, rfl, rfl, rfl⟩, hB.up, hP, hG, hT, hM, hK.up, hW, hW2⟩
  unfold fX5_bell fX6_bell
  rcases y_inz x1 0 9 with ⟨q, r⟩ | ⟨q, r0, r1⟩
  · have r' : x1.toInt < 0 ∨ 9 < x1.toInt := r
    rw [if_pos q]
    simp only [Int32.lt_iff_toInt_lt, Int32.le_iff_toInt_le, Int32.reduceToInt]
    by_cases c : x1.toInt < 0
    · rw [if_pos c]
    · rw [if_neg c, if_neg (by omega)]
  · have r0' : 0 ≤ x1.toInt := r0
    have r1' : x1.toInt ≤ 9 := r1
    rw [if_neg (show ¬ fX6_in x1.toInt64 0 9 = 0 by rw [q]; decide)]
    simp only [Int32.lt_iff_toInt_lt, Int32.le_iff_toInt_le, Int32.reduceToInt]
    rw [if_neg (by omega : ¬ x1.toInt < 0), if_pos r1']
    rcases y_has b11 with ⟨a, c, _⟩ | ⟨a, c, s1, h2⟩
    · rw [if_pos a, if_neg (by rw [c]; decide)]
    · rw [if_neg (by rw [a]; decide), if_pos c]
      exact y_bell hG (by omega) b2.2 b6.1 (by omega) 13 0 (by decide)

theorem s_barge (k : Nat) (x_page_letters : Nat → Int32) (x_page_size : Int32) (x_ground_levels : Nat → Int32) (x_ground_heights : Nat → Int32) (x_ground_heightCount : Int32) (x_ground_stairs : Int32) (x_now_kinds : Nat → Int32) (x_now_places : Nat → Int32) (x_now_worths : Nat → Int32) (x_now_thingCount : Int32) (x_now_barge : Int32) (x_now_hour : Int32) (x_now_markCount : Int32) (x_now_marks : Nat → Int32) (x_now_markHour : Int32) (x_kept_kinds : Nat → Int32) (x_kept_places : Nat → Int32) (x_kept_worths : Nat → Int32) (x_kept_thingCount : Int32) (x_kept_barge : Int32) (x_kept_hour : Int32) (x_kept_markCount : Int32) (x_kept_marks : Nat → Int32) (x_kept_markHour : Int32) (x_shoresRead : Int32) (x_bestsDone : Int32) (x_keptAtShore : Int32) (m_page : Nat → Int32) (m_pageMany : Int32) (m_heightMany : Int32) (m_stairs : Int32) (m_hourNow : Int32) (m_bargeAt : Int32) (m_shoresRead : Int32) (m_levels : Nat → Int32) (m_heights : Nat → Int32) (m_things : Int32) (m_rows : Nat → Int32) (m_done : Int32) (m_markHour : Int32) (m_markMany : Int32) (m_marks : Nat → Int32) (m_keptShore : Int32) (m_keptThings : Int32) (m_keptBarge : Int32) (m_keptHour : Int32) (m_keptMarkHour : Int32) (m_keptMarkMany : Int32) (m_keptRows : Nat → Int32) (m_keptMarks : Nat → Int32) (x1 : Int32) (hk : k ≤ 64) (h : RR k x_page_letters x_page_size x_ground_levels x_ground_heights x_ground_heightCount x_ground_stairs x_now_kinds x_now_places x_now_worths x_now_thingCount x_now_barge x_now_hour x_now_markCount x_now_marks x_now_markHour x_kept_kinds x_kept_places x_kept_worths x_kept_thingCount x_kept_barge x_kept_hour x_kept_markCount x_kept_marks x_kept_markHour x_shoresRead x_bestsDone x_keptAtShore m_page m_pageMany m_heightMany m_stairs m_hourNow m_bargeAt m_shoresRead m_levels m_heights m_things m_rows m_done m_markHour m_markMany m_marks m_keptShore m_keptThings m_keptBarge m_keptHour m_keptMarkHour m_keptMarkMany m_keptRows m_keptMarks) : (fX5_barge x_shoresRead x_now_barge x1).1 = (fX6_barge m_heightMany m_bargeAt x1).1 ∧ RR (k + 1) x_page_letters x_page_size x_ground_levels x_ground_heights x_ground_heightCount x_ground_stairs x_now_kinds x_now_places x_now_worths x_now_thingCount ((fX5_barge x_shoresRead x_now_barge x1).2) x_now_hour x_now_markCount x_now_marks x_now_markHour x_kept_kinds x_kept_places x_kept_worths x_kept_thingCount x_kept_barge x_kept_hour x_kept_markCount x_kept_marks x_kept_markHour x_shoresRead x_bestsDone x_keptAtShore m_page m_pageMany m_heightMany m_stairs m_hourNow ((fX6_barge m_heightMany m_bargeAt x1).2) m_shoresRead m_levels m_heights m_things m_rows m_done m_markHour m_markMany m_marks m_keptShore m_keptThings m_keptBarge m_keptHour m_keptMarkHour m_keptMarkMany m_keptRows m_keptMarks := by
  obtain ⟨⟨e1, e2, e3, e4, e5, e6, e7, e8, e9, e10⟩, hB, hP, hG, hT, hM, hK, hW, hW2⟩ := h
  subst e1 e2 e3 e4 e5 e6 e7 e8 e9 e10
  obtain ⟨b1, b2, b3, b4, b5, b6, b7, b8, b9, b10, b11⟩ := id hB
  have key : ∀ y : Int32, (-1 ≤ y.toInt ∧ y.toInt ≤ 7) → (fX5_barge_j15 x_shoresRead x_now_barge y = fX6_barge_j15 x_ground_heightCount x_now_barge y) ∧ (-1 ≤ (fX5_barge_j15 x_shoresRead x_now_barge y).2.toInt ∧ (fX5_barge_j15 x_shoresRead x_now_barge y).2.toInt ≤ 7) := by
    intro y hy
    unfold fX5_barge_j15 fX6_barge_j15
    rcases y_has b11 with ⟨a, c, _⟩ | ⟨a, c, s1, h2⟩
    · rw [if_pos a, if_neg (by rw [c]; decide)]; exact ⟨rfl, b5⟩
    · rw [if_neg (by rw [a]; decide), if_pos c]; exact ⟨rfl, hy⟩
  have all : fX5_barge x_shoresRead x_now_barge x1 = fX6_barge x_ground_heightCount x_now_barge x1 ∧ (-1 ≤ (fX5_barge x_shoresRead x_now_barge x1).2.toInt ∧ (fX5_barge x_shoresRead x_now_barge x1).2.toInt ≤ 7) := by
    unfold fX5_barge fX6_barge
    by_cases q : x1 = -1
    · rw [if_pos q, if_pos q]; exact key x1 (by rw [q]; decide)
    · rw [if_neg q, if_neg q]
      rcases y_cellz x1 with ⟨a, c⟩ | ⟨a, c, c0, c1⟩
      · rw [if_pos a, if_pos c]; exact ⟨rfl, b5⟩
      · rw [if_neg (by rw [a]; decide), if_neg (by rw [c]; decide)]; exact key x1 ⟨by omega, c1⟩
  obtain ⟨ae, ab⟩ := all
  refine ⟨by rw [ae], ⟨rfl, rfl, rfl, rfl, by rw [ae], rfl, rfl, rfl, rfl, rfl⟩, ?_, hP, hG, hT, hM, hK.up, hW, hW2⟩
  obtain ⟨u1, u2, u3, u4, u5, u6⟩ := hB.up
  exact ⟨u1, u2, u3, u4, ab, u6⟩

theorem s_mark (k : Nat) (x_page_letters : Nat → Int32) (x_page_size : Int32) (x_ground_levels : Nat → Int32) (x_ground_heights : Nat → Int32) (x_ground_heightCount : Int32) (x_ground_stairs : Int32) (x_now_kinds : Nat → Int32) (x_now_places : Nat → Int32) (x_now_worths : Nat → Int32) (x_now_thingCount : Int32) (x_now_barge : Int32) (x_now_hour : Int32) (x_now_markCount : Int32) (x_now_marks : Nat → Int32) (x_now_markHour : Int32) (x_kept_kinds : Nat → Int32) (x_kept_places : Nat → Int32) (x_kept_worths : Nat → Int32) (x_kept_thingCount : Int32) (x_kept_barge : Int32) (x_kept_hour : Int32) (x_kept_markCount : Int32) (x_kept_marks : Nat → Int32) (x_kept_markHour : Int32) (x_shoresRead : Int32) (x_bestsDone : Int32) (x_keptAtShore : Int32) (m_page : Nat → Int32) (m_pageMany : Int32) (m_heightMany : Int32) (m_stairs : Int32) (m_hourNow : Int32) (m_bargeAt : Int32) (m_shoresRead : Int32) (m_levels : Nat → Int32) (m_heights : Nat → Int32) (m_things : Int32) (m_rows : Nat → Int32) (m_done : Int32) (m_markHour : Int32) (m_markMany : Int32) (m_marks : Nat → Int32) (m_keptShore : Int32) (m_keptThings : Int32) (m_keptBarge : Int32) (m_keptHour : Int32) (m_keptMarkHour : Int32) (m_keptMarkMany : Int32) (m_keptRows : Nat → Int32) (m_keptMarks : Nat → Int32) (x1 : Int32) (x2 : Int32) (hk : k ≤ 64) (h : RR k x_page_letters x_page_size x_ground_levels x_ground_heights x_ground_heightCount x_ground_stairs x_now_kinds x_now_places x_now_worths x_now_thingCount x_now_barge x_now_hour x_now_markCount x_now_marks x_now_markHour x_kept_kinds x_kept_places x_kept_worths x_kept_thingCount x_kept_barge x_kept_hour x_kept_markCount x_kept_marks x_kept_markHour x_shoresRead x_bestsDone x_keptAtShore m_page m_pageMany m_heightMany m_stairs m_hourNow m_bargeAt m_shoresRead m_levels m_heights m_things m_rows m_done m_markHour m_markMany m_marks m_keptShore m_keptThings m_keptBarge m_keptHour m_keptMarkHour m_keptMarkMany m_keptRows m_keptMarks) : (fX5_mark x_shoresRead x_now_markCount x_now_markHour x_now_marks x1 x2).1 = (fX6_mark m_heightMany m_markHour m_markMany m_marks x1 x2).1 ∧ RR (k + 1) x_page_letters x_page_size x_ground_levels x_ground_heights x_ground_heightCount x_ground_stairs x_now_kinds x_now_places x_now_worths x_now_thingCount x_now_barge x_now_hour ((fX5_mark x_shoresRead x_now_markCount x_now_markHour x_now_marks x1 x2).2.1) ((fX5_mark x_shoresRead x_now_markCount x_now_markHour x_now_marks x1 x2).2.2.1) ((fX5_mark x_shoresRead x_now_markCount x_now_markHour x_now_marks x1 x2).2.2.2) x_kept_kinds x_kept_places x_kept_worths x_kept_thingCount x_kept_barge x_kept_hour x_kept_markCount x_kept_marks x_kept_markHour x_shoresRead x_bestsDone x_keptAtShore m_page m_pageMany m_heightMany m_stairs m_hourNow m_bargeAt m_shoresRead m_levels m_heights m_things m_rows m_done ((fX6_mark m_heightMany m_markHour m_markMany m_marks x1 x2).2.1) ((fX6_mark m_heightMany m_markHour m_markMany m_marks x1 x2).2.2.1) ((fX6_mark m_heightMany m_markHour m_markMany m_marks x1 x2).2.2.2) m_keptShore m_keptThings m_keptBarge m_keptHour m_keptMarkHour m_keptMarkMany m_keptRows m_keptMarks := by
  obtain ⟨⟨e1, e2, e3, e4, e5, e6, e7, e8, e9, e10⟩, hB, hP, hG, hT, hM, hK, hW, hW2⟩ := h
  subst e1 e2 e3 e4 e5 e6 e7 e8 e9 e10
  obtain ⟨b1, b2, b3, b4, b5, b6, b7, b8, b9, b10, b11⟩ := id hB
  unfold fX5_mark fX6_mark
  rcases y_inz x1 0 99 with ⟨q, r⟩ | ⟨q, r0, r1⟩
  · have r' : x1.toInt < 0 ∨ 99 < x1.toInt := r
    simp only [if_pos q, Int32.lt_iff_toInt_lt, Int32.le_iff_toInt_le, Int32.reduceToInt]
    by_cases c : x1.toInt < 0
    · simp only [if_pos c]; exact ⟨by first | rfl | trivial, ⟨rfl, rfl, rfl, rfl, rfl, rfl, rfl, rfl, rfl, rfl⟩, hB.up, hP, hG, hT, hM, hK.up, hW, hW2⟩
    · simp only [if_neg c, if_neg (show ¬ x1.toInt ≤ 99 by omega)]; exact ⟨by first | rfl | trivial, ⟨rfl, rfl, rfl, rfl, rfl, rfl, rfl, rfl, rfl, rfl⟩, hB.up, hP, hG, hT, hM, hK.up, hW, hW2⟩
  · have r0' : 0 ≤ x1.toInt := r0
    have r1' : x1.toInt ≤ 99 := r1
    simp only [if_neg (show ¬ fX6_in x1.toInt64 0 99 = 0 by rw [q]; decide), Int32.lt_iff_toInt_lt, Int32.le_iff_toInt_le, Int32.reduceToInt, if_neg (show ¬ x1.toInt < 0 by omega), if_pos r1']
    rcases y_cellz x2 with ⟨a, c⟩ | ⟨a, c, c0, c1⟩
    · simp only [if_pos a, if_pos c]; exact ⟨by first | rfl | trivial, ⟨rfl, rfl, rfl, rfl, rfl, rfl, rfl, rfl, rfl, rfl⟩, hB.up, hP, hG, hT, hM, hK.up, hW, hW2⟩
    · simp only [if_neg (show ¬ fX5_isCell x2 = 0 by rw [a]; decide), if_neg (show ¬ fX6_isCell x2 = 0 by rw [c]; decide)]
      rcases y_has b11 with ⟨a, c, _⟩ | ⟨a, c, s1, h2⟩
      · simp only [if_pos a, if_neg (show ¬ fX6_lacks x_ground_heightCount = 0 by rw [c]; decide)]; exact ⟨by first | rfl | trivial, ⟨rfl, rfl, rfl, rfl, rfl, rfl, rfl, rfl, rfl, rfl⟩, hB.up, hP, hG, hT, hM, hK.up, hW, hW2⟩
      · simp only [if_neg (show ¬ fX5_hasShore x_shoresRead = 0 by rw [a]; decide), if_pos c]
        obtain ⟨u1, u2, u3, u4, u5, u6, u7, u8, u9, u10, u11⟩ := hB.up
        refine ⟨by first | rfl | trivial, ⟨rfl, rfl, rfl, rfl, rfl, rfl, rfl, rfl, rfl, rfl⟩, ⟨u1, u2, u3, u4, u5, u6, ⟨(by decide : (0 : Int) ≤ (1 : Int32).toInt), (by decide : (1 : Int32).toInt ≤ (8 : Int))⟩, ⟨r0', r1'⟩, u9, u10, Or.inr ⟨s1, h2⟩⟩, hP, hG, hT, RM.one (by omega) c1, hK.up, hW, hW2⟩

theorem s_then (k : Nat) (x_page_letters : Nat → Int32) (x_page_size : Int32) (x_ground_levels : Nat → Int32) (x_ground_heights : Nat → Int32) (x_ground_heightCount : Int32) (x_ground_stairs : Int32) (x_now_kinds : Nat → Int32) (x_now_places : Nat → Int32) (x_now_worths : Nat → Int32) (x_now_thingCount : Int32) (x_now_barge : Int32) (x_now_hour : Int32) (x_now_markCount : Int32) (x_now_marks : Nat → Int32) (x_now_markHour : Int32) (x_kept_kinds : Nat → Int32) (x_kept_places : Nat → Int32) (x_kept_worths : Nat → Int32) (x_kept_thingCount : Int32) (x_kept_barge : Int32) (x_kept_hour : Int32) (x_kept_markCount : Int32) (x_kept_marks : Nat → Int32) (x_kept_markHour : Int32) (x_shoresRead : Int32) (x_bestsDone : Int32) (x_keptAtShore : Int32) (m_page : Nat → Int32) (m_pageMany : Int32) (m_heightMany : Int32) (m_stairs : Int32) (m_hourNow : Int32) (m_bargeAt : Int32) (m_shoresRead : Int32) (m_levels : Nat → Int32) (m_heights : Nat → Int32) (m_things : Int32) (m_rows : Nat → Int32) (m_done : Int32) (m_markHour : Int32) (m_markMany : Int32) (m_marks : Nat → Int32) (m_keptShore : Int32) (m_keptThings : Int32) (m_keptBarge : Int32) (m_keptHour : Int32) (m_keptMarkHour : Int32) (m_keptMarkMany : Int32) (m_keptRows : Nat → Int32) (m_keptMarks : Nat → Int32) (x1 : Int32) (hk : k ≤ 64) (h : RR k x_page_letters x_page_size x_ground_levels x_ground_heights x_ground_heightCount x_ground_stairs x_now_kinds x_now_places x_now_worths x_now_thingCount x_now_barge x_now_hour x_now_markCount x_now_marks x_now_markHour x_kept_kinds x_kept_places x_kept_worths x_kept_thingCount x_kept_barge x_kept_hour x_kept_markCount x_kept_marks x_kept_markHour x_shoresRead x_bestsDone x_keptAtShore m_page m_pageMany m_heightMany m_stairs m_hourNow m_bargeAt m_shoresRead m_levels m_heights m_things m_rows m_done m_markHour m_markMany m_marks m_keptShore m_keptThings m_keptBarge m_keptHour m_keptMarkHour m_keptMarkMany m_keptRows m_keptMarks) : (fX5_then x_now_markCount x_now_marks x1).1 = (fX6_then m_markMany m_marks x1).1 ∧ RR (k + 1) x_page_letters x_page_size x_ground_levels x_ground_heights x_ground_heightCount x_ground_stairs x_now_kinds x_now_places x_now_worths x_now_thingCount x_now_barge x_now_hour ((fX5_then x_now_markCount x_now_marks x1).2.1) ((fX5_then x_now_markCount x_now_marks x1).2.2) x_now_markHour x_kept_kinds x_kept_places x_kept_worths x_kept_thingCount x_kept_barge x_kept_hour x_kept_markCount x_kept_marks x_kept_markHour x_shoresRead x_bestsDone x_keptAtShore m_page m_pageMany m_heightMany m_stairs m_hourNow m_bargeAt m_shoresRead m_levels m_heights m_things m_rows m_done m_markHour ((fX6_then m_markMany m_marks x1).2.1) ((fX6_then m_markMany m_marks x1).2.2) m_keptShore m_keptThings m_keptBarge m_keptHour m_keptMarkHour m_keptMarkMany m_keptRows m_keptMarks := by
  obtain ⟨⟨e1, e2, e3, e4, e5, e6, e7, e8, e9, e10⟩, hB, hP, hG, hT, hM, hK, hW, hW2⟩ := h
  subst e1 e2 e3 e4 e5 e6 e7 e8 e9 e10
  obtain ⟨b1, b2, b3, b4, b5, b6, b7, b8, b9, b10, b11⟩ := id hB
  have key : ∀ y : Int32, (-2 ≤ y.toInt ∧ y.toInt ≤ 7) → ¬ x_now_markCount = 0 → (fX5_then_j29 x_now_markCount x_now_marks y).1 = (fX6_then_j26 x_now_markCount m_marks y).1 ∧ (fX5_then_j29 x_now_markCount x_now_marks y).2.1 = (fX6_then_j26 x_now_markCount m_marks y).2.1 ∧ (0 ≤ (fX5_then_j29 x_now_markCount x_now_marks y).2.1.toInt ∧ (fX5_then_j29 x_now_markCount x_now_marks y).2.1.toInt ≤ 8) ∧ RM (fX5_then_j29 x_now_markCount x_now_marks y).2.1 (fX5_then_j29 x_now_markCount x_now_marks y).2.2 (fX6_then_j26 x_now_markCount m_marks y).2.2 := by
    intro y hy hz
    unfold fX5_then_j29 fX6_then_j26 fX3_addMark
    by_cases q : x_now_markCount.toInt < 8
    · have p : x_now_markCount < 8 := by rw [Int32.lt_iff_toInt_lt]; exact q
      have p2 : ¬ x_now_markCount = 8 := by intro e; rw [e] at q; exact absurd q (by decide)
      simp only [if_pos p, if_neg p2]
      have e : (x_now_markCount + 1).toInt = x_now_markCount.toInt + 1 := y_add (by omega) (by omega) (by decide) (by decide)
      exact ⟨by first | rfl | trivial, by first | rfl | trivial, ⟨by omega, by omega⟩, RM.push hM b7.1 b7.2 hy.1 hy.2⟩
    · have p : ¬ x_now_markCount < 8 := by rw [Int32.lt_iff_toInt_lt]; exact q
      have p2 : x_now_markCount = 8 := Int32.toInt_inj.mp (by have e : (8 : Int32).toInt = 8 := rfl; omega)
      simp only [if_neg p, if_pos p2]
      exact ⟨by first | rfl | trivial, by first | rfl | trivial, b7, hM⟩
  have all : (fX5_then x_now_markCount x_now_marks x1).1 = (fX6_then x_now_markCount m_marks x1).1 ∧ (fX5_then x_now_markCount x_now_marks x1).2.1 = (fX6_then x_now_markCount m_marks x1).2.1 ∧ (0 ≤ (fX5_then x_now_markCount x_now_marks x1).2.1.toInt ∧ (fX5_then x_now_markCount x_now_marks x1).2.1.toInt ≤ 8) ∧ RM (fX5_then x_now_markCount x_now_marks x1).2.1 (fX5_then x_now_markCount x_now_marks x1).2.2 (fX6_then x_now_markCount m_marks x1).2.2 ∧ (x_now_markCount = 0 → (fX5_then x_now_markCount x_now_marks x1).2.1 = 0) := by
    unfold fX5_then fX6_then
    by_cases z : x_now_markCount = 0
    · simp only [if_pos z]; exact ⟨by first | rfl | trivial, by first | rfl | trivial, b7, hM, fun h => h⟩
    · simp only [if_neg z]
      by_cases q : x1 = -2
      · simp only [if_pos q]; obtain ⟨k1, k2, k3, k4⟩ := key x1 (by rw [q]; decide) z; exact ⟨k1, k2, k3, k4, fun h => absurd h z⟩
      · simp only [if_neg q]
        rcases y_cellz x1 with ⟨a, c⟩ | ⟨a, c, c0, c1⟩
        · simp only [if_pos a, if_pos c]; exact ⟨by first | rfl | trivial, by first | rfl | trivial, b7, hM, fun h => absurd h z⟩
        · simp only [if_neg (show ¬ fX5_isCell x1 = 0 by rw [a]; decide), if_neg (show ¬ fX6_isCell x1 = 0 by rw [c]; decide)]
          obtain ⟨k1, k2, k3, k4⟩ := key x1 ⟨by omega, c1⟩ z; exact ⟨k1, k2, k3, k4, fun h => absurd h z⟩
  obtain ⟨k1, k2, k3, k4, k5⟩ := all
  obtain ⟨u1, u2, u3, u4, u5, u6, u7, u8, u9, u10, u11⟩ := hB.up
  refine ⟨k1, ⟨rfl, rfl, rfl, rfl, rfl, rfl, k2, rfl, rfl, rfl⟩, ⟨u1, u2, u3, u4, u5, u6, k3, u8, u9, u10, ?_⟩, hP, hG, hT, k4, hK.up, hW, hW2⟩
  rcases u11 with ⟨v1, v2, v3, v4, v5⟩ | v
  · exact Or.inl ⟨v1, v2, v3, k5 v4, v5⟩
  · exact Or.inr v
