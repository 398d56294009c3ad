theorem y_row {i : Int32} (h0 : 0 ≤ i.toInt) (h1 : i.toInt ≤ 8) : (4 * i).toNatClampNeg = 4 * i.toNatClampNeg ∧ (4 * i + 1).toNatClampNeg = 4 * i.toNatClampNeg + 1 ∧ (4 * i + 2).toNatClampNeg = 4 * i.toNatClampNeg + 2 := by
  have e4 : (4 : Int32).toInt = 4 := rfl
  have e1 : (1 : Int32).toInt = 1 := rfl
  have e2 : (2 : Int32).toInt = 2 := rfl
  have m : (4 * i).toInt = 4 * i.toInt := by
    rw [Int32.toInt_mul, e4]; simp only [Int.bmod, Nat.reducePow]; omega
  have m1 : (4 * i + 1).toInt = 4 * i.toInt + 1 := by rw [y_add (by omega) (by omega) (by decide) (by decide), m, e1]
  have m2 : (4 * i + 2).toInt = 4 * i.toInt + 2 := by rw [y_add (by omega) (by omega) (by decide) (by decide), m, e2]
  have c := z_clampN h0
  have c0 := z_clampN (x := 4 * i) (by omega)
  have c1 := z_clampN (x := 4 * i + 1) (by omega)
  have c2 := z_clampN (x := 4 * i + 2) (by omega)
  refine ⟨by omega, by omega, by omega⟩
theorem y_lowl (hc : Int32) (L T : Nat → Int32) (w m h bg : Int32) : ∀ (n : Nat) (i a : Int32), -2 ≤ a.toInt → -2 ≤ (fX4_carried_l6 hc L T w m h bg n i a).toInt := by
  intro n
  induction n with
  | zero => intro i a _; rw [fX4_carried_l6]; decide
  | succ n ih =>
    intro i a ha
    rw [fX4_carried_l6]
    have p : 0 ≤ a + w → -2 ≤ (a + w).toInt := by
      intro q; rw [Int32.le_iff_toInt_le] at q; have e0 : (0 : Int32).toInt = 0 := rfl; omega
    split
    · exact ha
    · split
      · rename_i q
        split
        · split
          · exact ih _ _ (p q)
          · exact p q
        · exact ha
      · decide
theorem y_low (hc : Int32) (L T : Nat → Int32) (k a h bg : Int32) (ha : -2 ≤ a.toInt) : -2 ≤ (fX4_drifted hc L T k a h bg).toInt := by
  have q : ∀ w m : Int32, -2 ≤ (fX4_carried hc L T a w m (h + 1) bg).toInt := fun w m => y_lowl hc L T w m (h + 1) bg 4 0 a ha
  unfold fX4_drifted
  split
  · exact ha
  · split
    · exact ha
    · split
      · split
        · split
          · exact ha
          · exact q _ _
        · exact q _ _
      · exact ha
theorem y_high (hc : Int32) (L T : Nat → Int32) (k a h bg : Int32) (ha : a.toInt ≤ 7) : (fX6_drifts hc bg L T k a h).toInt ≤ 7 := by
  have q := zX6_drifts hc bg L T k a h (by rw [Int32.le_iff_toInt_le]; exact ha)
  rw [Int32.le_iff_toInt_le] at q
  exact q
theorem RT.at {n i : Int32} {K P V rows : Nat → Int32} (h : RT n K P V rows) (i0 : 0 ≤ i.toInt) (i1 : i.toInt < n.toInt) (i8 : i.toInt ≤ 8) : K i.toNatClampNeg = rows (4 * i).toNatClampNeg ∧ P i.toNatClampNeg = rows (4 * i + 1).toNatClampNeg ∧ V i.toNatClampNeg = rows (4 * i + 2).toNatClampNeg ∧ 0 ≤ (K i.toNatClampNeg).toInt ∧ (K i.toNatClampNeg).toInt ≤ 4 ∧ -2 ≤ (P i.toNatClampNeg).toInt ∧ (P i.toNatClampNeg).toInt ≤ 7 ∧ 1 ≤ (V i.toNatClampNeg).toInt ∧ (V i.toNatClampNeg).toInt ≤ 50 := by
  obtain ⟨r0, r1, r2⟩ := y_row i0 i8
  have c := z_clampN i0
  rw [r0, r1, r2]
  exact h i.toNatClampNeg (by omega)
theorem RT.put {n i v : Int32} {K P V rows : Nat → Int32} (h : RT n K P V rows) (i0 : 0 ≤ i.toInt) (i8 : i.toInt ≤ 8) (v0 : -2 ≤ v.toInt) (v1 : v.toInt ≤ 7) : RT n K (upd P i.toNatClampNeg v) V (upd rows (4 * i + 1).toNatClampNeg v) := by
  obtain ⟨r0, r1, r2⟩ := y_row i0 i8
  rw [r1]
  intro t ht
  obtain ⟨q0, q1, q2, q3, q4, q5, q6, q7⟩ := h t ht
  rw [pk_un (f := rows) (k := 4 * i.toNatClampNeg + 1) (j := 4 * t) (by omega), pk_un (f := rows) (k := 4 * i.toNatClampNeg + 1) (j := 4 * t + 2) (by omega)]
  by_cases d : t = i.toNatClampNeg
  · rw [d, pk_us, pk_us, ← d]
    exact ⟨q0, rfl, q2, q3, q4, v0, v1, q7⟩
  · rw [pk_un d, pk_un (by omega)]
    exact ⟨q0, q1, q2, q3, q4, q5, q6, q7⟩
theorem y_hour {hc bg hr tC : Int32} {L L' T T' K V : Nat → Int32} (hG : RG hc L L' T T') (hc1 : 1 ≤ hc.toInt) (h0 : 0 ≤ hr.toInt) (h1 : hr.toInt ≤ 1000) (b0 : -1 ≤ bg.toInt) (b1 : bg.toInt ≤ 7) (t8 : tC.toInt ≤ 8) : ∀ (n : Nat) (i c : Int32) (P rows : Nat → Int32), RT tC K P V rows → RW rows → 0 ≤ i.toInt → i.toInt ≤ tC.toInt → tC.toInt - i.toInt < n → (fX3_goOn_l4 tC bg hr K hc L T n i c P).1 = (fX6_hour_l14 hc hr bg tC L' T' n i c rows).1 ∧ RT tC K (fX3_goOn_l4 tC bg hr K hc L T n i c P).2 V (fX6_hour_l14 hc hr bg tC L' T' n i c rows).2 ∧ RW (fX6_hour_l14 hc hr bg tC L' T' n i c rows).2 := by
  intro n
  induction n with
  | zero => intro i c P rows hT hW i0 it hf; exfalso; omega
  | succ n ih =>
    intro i c P rows hT hW i0 it hf
    rw [fX3_goOn_l4, fX6_hour_l14]
    by_cases q : tC ≤ i
    · rw [if_pos q, if_pos q]; exact ⟨rfl, hT, hW⟩
    · rw [if_neg q, if_neg q]
      rw [Int32.le_iff_toInt_le] at q
      obtain ⟨r0, r1, r2, r3, r4, r5, r6, r7, r8⟩ := hT.at i0 (by omega) (by omega)
      have ei : (i + 1).toInt = i.toInt + 1 := y_add (by omega) (by omega) (by decide) (by decide)
      have ed : fX4_drifted hc L T (K i.toNatClampNeg) (P i.toNatClampNeg) hr bg = fX6_drifts hc bg L' T' (rows (4 * i).toNatClampNeg) (rows (4 * i + 1).toNatClampNeg) hr := by
        rw [← r0, ← r1]; exact y_drift hG hc1 h0 h1 b0 b1 r3 r4 r5 r6
      have lo := y_low hc L T (K i.toNatClampNeg) (P i.toNatClampNeg) hr bg r5
      have hi := y_high hc L' T' (rows (4 * i).toNatClampNeg) (rows (4 * i + 1).toNatClampNeg) hr bg (by rw [← r1]; exact r6)
      rw [ed] at lo
      simp only [fX3_goOn_j52l4, fX6_hour_j69l14, ed]
      simp only [r1]
      have hT' := hT.put i0 (by omega) lo hi
      have hW' := z_RWupd (k := (4 * i + 1).toNatClampNeg) hW hi
      by_cases d : fX6_drifts hc bg L' T' (rows (4 * i).toNatClampNeg) (rows (4 * i + 1).toNatClampNeg) hr = rows (4 * i + 1).toNatClampNeg
      · have e : c + 0 = c := Int32.add_zero c
        simp only [if_pos d, e]
        exact ih (i + 1) c _ _ hT' hW' (by omega) (by omega) (by omega)
      · simp only [if_neg d]
        exact ih (i + 1) (c + 1) _ _ hT' hW' (by omega) (by omega) (by omega)
theorem s_hour (k : Nat) (x_page_letters : Nat → Int32) (x_page_size : Int32) (x_ground_levels : Nat → Int32) (x_ground_heights : Nat → Int32) (x_ground_heightCount : Int32) (x_ground_stairs : Int32) (x_now_kinds : Nat → Int32) (x_now_places : Nat → Int32) (x_now_worths : Nat → Int32) (x_now_thingCount : Int32) (x_now_barge : Int32) (x_now_hour : Int32) (x_now_markCount : Int32) (x_now_marks : Nat → Int32) (x_now_markHour : Int32) (x_kept_kinds : Nat → Int32) (x_kept_places : Nat → Int32) (x_kept_worths : Nat → Int32) (x_kept_thingCount : Int32) (x_kept_barge : Int32) (x_kept_hour : Int32) (x_kept_markCount : Int32) (x_kept_marks : Nat → Int32) (x_kept_markHour : Int32) (x_shoresRead : Int32) (x_bestsDone : Int32) (x_keptAtShore : Int32) (m_page : Nat → Int32) (m_pageMany : Int32) (m_heightMany : Int32) (m_stairs : Int32) (m_hourNow : Int32) (m_bargeAt : Int32) (m_shoresRead : Int32) (m_levels : Nat → Int32) (m_heights : Nat → Int32) (m_things : Int32) (m_rows : Nat → Int32) (m_done : Int32) (m_markHour : Int32) (m_markMany : Int32) (m_marks : Nat → Int32) (m_keptShore : Int32) (m_keptThings : Int32) (m_keptBarge : Int32) (m_keptHour : Int32) (m_keptMarkHour : Int32) (m_keptMarkMany : Int32) (m_keptRows : Nat → Int32) (m_keptMarks : Nat → Int32) (hk : k ≤ 64) (h : RR k x_page_letters x_page_size x_ground_levels x_ground_heights x_ground_heightCount x_ground_stairs x_now_kinds x_now_places x_now_worths x_now_thingCount x_now_barge x_now_hour x_now_markCount x_now_marks x_now_markHour x_kept_kinds x_kept_places x_kept_worths x_kept_thingCount x_kept_barge x_kept_hour x_kept_markCount x_kept_marks x_kept_markHour x_shoresRead x_bestsDone x_keptAtShore m_page m_pageMany m_heightMany m_stairs m_hourNow m_bargeAt m_shoresRead m_levels m_heights m_things m_rows m_done m_markHour m_markMany m_marks m_keptShore m_keptThings m_keptBarge m_keptHour m_keptMarkHour m_keptMarkMany m_keptRows m_keptMarks) : (fX5_hour x_shoresRead x_ground_heightCount x_ground_levels x_ground_heights x_now_thingCount x_now_barge x_now_hour x_now_kinds x_now_places).1 = (fX6_hour m_heightMany m_hourNow m_bargeAt m_things m_levels m_heights m_rows).1 ∧ RR (k + 1) x_page_letters x_page_size x_ground_levels x_ground_heights x_ground_heightCount x_ground_stairs x_now_kinds ((fX5_hour x_shoresRead x_ground_heightCount x_ground_levels x_ground_heights x_now_thingCount x_now_barge x_now_hour x_now_kinds x_now_places).2.1) x_now_worths x_now_thingCount x_now_barge ((fX5_hour x_shoresRead x_ground_heightCount x_ground_levels x_ground_heights x_now_thingCount x_now_barge x_now_hour x_now_kinds x_now_places).2.2) x_now_markCount x_now_marks x_now_markHour x_kept_kinds x_kept_places x_kept_worths x_kept_thingCount x_kept_barge x_kept_hour x_kept_markCount x_kept_marks x_kept_markHour x_shoresRead x_bestsDone x_keptAtShore m_page m_pageMany m_heightMany m_stairs ((fX6_hour m_heightMany m_hourNow m_bargeAt m_things m_levels m_heights m_rows).2.1) m_bargeAt m_shoresRead m_levels m_heights m_things ((fX6_hour m_heightMany m_hourNow m_bargeAt m_things m_levels m_heights m_rows).2.2) m_done m_markHour m_markMany m_marks m_keptShore m_keptThings m_keptBarge m_keptHour m_keptMarkHour m_keptMarkMany m_keptRows m_keptMarks := by
  obtain ⟨⟨e1, e2, e3, e4, e5, e6, e7, e8, e9, e10⟩, hB, hP, hG, hT, hM, hK, hW, hW2⟩ := h
  subst e1 e2 e3 e4 e5 e6 e7 e8 e9 e10
  obtain ⟨b1, b2, b3, b4, b5, b6, b7, b8, b9, b10, b11⟩ := id hB
  unfold fX5_hour fX6_hour
  rcases y_has b11 with ⟨a, c, _⟩ | ⟨a, c, s1, h2⟩
  · simp only [if_pos a, if_neg (show ¬ fX6_lacks x_ground_heightCount = 0 by rw [c]; decide)]
    exact ⟨by first | rfl | trivial, ⟨rfl, rfl, rfl, rfl, rfl, rfl, rfl, rfl, rfl, rfl⟩, hB.up, hP, hG, hT, hM, hK.up, hW, hW2⟩
  · simp only [if_neg (show ¬ fX5_hasShore x_shoresRead = 0 by rw [a]; decide), if_pos c, fX3_goOn, fX3_goOn_x4, fX6_hour_x14]
    obtain ⟨q1, q2, q3⟩ := y_hour (tC := x_now_thingCount) hG (by omega) b6.1 (by omega) b5.1 b5.2 b4.2 9 0 0 _ _ hT hW (by decide) b4.1 (by have e0 : (0 : Int32).toInt = 0 := rfl; omega)
    obtain ⟨u1, u2, u3, u4, u5, u6, u7, u8, u9, u10, u11⟩ := hB.up
    have e : (x_now_hour + 1).toInt = x_now_hour.toInt + 1 := y_add (by omega) (by omega) (by decide) (by decide)
    exact ⟨q1, ⟨rfl, rfl, rfl, rfl, rfl, rfl, rfl, rfl, rfl, rfl⟩, ⟨u1, u2, u3, u4, u5, ⟨by omega, by omega⟩, u7, u8, u9, u10, u11⟩, hP, hG, q2, hM, hK.up, q3, hW2⟩
