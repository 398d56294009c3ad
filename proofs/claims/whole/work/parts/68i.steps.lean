set_option maxRecDepth 100000 in
set_option maxHeartbeats 4000000 in
theorem y_bits_all : ∀ s : Fin 256, fX4_stairCount (Int32.ofNat s.val) = fX6_countOf_l83 (Int32.ofNat s.val) 9 0 0 := by decide +kernel
theorem y_bits {s : Int32} (s0 : 0 ≤ s.toInt) (s1 : s.toInt ≤ 255) : fX4_stairCount s = fX6_countOf_l83 s 9 0 0 := by
  have cs := z_clampN s0
  have es : Int32.ofNat s.toNatClampNeg = s := Int32.toInt_inj.mp (by rw [Int32.toInt_ofNat_of_lt (by omega)]; omega)
  have h := y_bits_all ⟨s.toNatClampNeg, by omega⟩
  simp only [es] at h
  exact h
theorem y_worth {tC : Int32} {K P V rows : Nat → Int32} (t8 : tC.toInt ≤ 8) (hT : RT tC K P V rows) : ∀ (n : Nat) (i w c : Int32), 0 ≤ i.toInt → fX3_worthTaken_l4 tC P V n i w = (fX6_countOf_l10 tC rows n i w c).1 := by
  intro n
  induction n with
  | zero => intro i w c i0; rw [fX3_worthTaken_l4, fX6_countOf_l10]
  | succ n ih =>
    intro i w c i0
    rw [fX3_worthTaken_l4, fX6_countOf_l10]
    by_cases q : tC ≤ i
    · rw [if_pos q, if_pos q]
    · rw [if_neg q, if_neg q]
      rw [Int32.le_iff_toInt_le] at q
      obtain ⟨r0, r1, r2, r3, r4, r5, r6, r7, r8⟩ := hT.at i0 (by omega) (by omega)
      have ei : (i + 1).toInt = i.toInt + 1 := y_add (by omega) (by omega) (by decide) (by decide)
      unfold fX6_countOf_j39l10
      dsimp only
      rw [← r1, ← r2]
      simp only [Int32.add_zero]
      by_cases d : P i.toNatClampNeg = -1
      · have d2 : P i.toNatClampNeg < 0 := by rw [d]; decide
        rw [if_pos d, if_pos d2, if_pos d]; exact ih (i + 1) _ _ (by omega)
      · rw [if_neg d]
        by_cases d2 : P i.toNatClampNeg < 0
        · rw [if_pos d2, if_neg d]; exact ih (i + 1) _ _ (by omega)
        · rw [if_neg d2, if_neg d]; exact ih (i + 1) _ _ (by omega)
theorem y_incells {tC : Int32} {K P V rows : Nat → Int32} (t8 : tC.toInt ≤ 8) (hT : RT tC K P V rows) : ∀ (n : Nat) (i a b w c : Int32), 0 ≤ i.toInt → i.toInt ≤ tC.toInt → tC.toInt - i.toInt < n → 0 ≤ a.toInt → a.toInt ≤ i.toInt → 0 ≤ b.toInt → b.toInt ≤ i.toInt → 0 ≤ c.toInt → c.toInt ≤ i.toInt → (fX3_countIn_l4 tC P (-1) n i a).toInt + (fX3_countIn_l4 tC P (-2) n i b).toInt + (fX6_countOf_l10 tC rows n i w c).2.toInt = a.toInt + b.toInt + c.toInt + (tC.toInt - i.toInt) ∧ 0 ≤ (fX3_countIn_l4 tC P (-1) n i a).toInt ∧ 0 ≤ (fX3_countIn_l4 tC P (-2) n i b).toInt ∧ 0 ≤ (fX6_countOf_l10 tC rows n i w c).2.toInt := by
  intro n
  induction n with
  | zero => intro i a b w c i0 it hf; exfalso; omega
  | succ n ih =>
    intro i a b w c i0 it hf a0 a1 b0 b1 c0 c1
    rw [fX3_countIn_l4, fX3_countIn_l4, fX6_countOf_l10]
    by_cases q : tC ≤ i
    · rw [if_pos q, if_pos q, if_pos q]
      rw [Int32.le_iff_toInt_le] at q
      refine ⟨?_, a0, b0, c0⟩
      show a.toInt + b.toInt + c.toInt = _
      omega
    · rw [if_neg q, if_neg q, if_neg q]
      rw [Int32.le_iff_toInt_le] at q
      obtain ⟨r0, r1, r2, r3, r4, r5, r6, r7, r8⟩ := hT.at i0 (by omega) (by omega)
      have e0 : (0 : Int32).toInt = 0 := rfl
      have e1 : (1 : Int32).toInt = 1 := rfl
      have n1 : (-1 : Int32).toInt = -1 := rfl
      have n2 : (-2 : Int32).toInt = -2 := rfl
      have ei : (i + 1).toInt = i.toInt + 1 := y_add (by omega) (by omega) (by decide) (by decide)
      have ea : (a + 1).toInt = a.toInt + 1 := y_add (by omega) (by omega) (by decide) (by decide)
      have eb : (b + 1).toInt = b.toInt + 1 := y_add (by omega) (by omega) (by decide) (by decide)
      have ec : (c + 1).toInt = c.toInt + 1 := y_add (by omega) (by omega) (by decide) (by decide)
      unfold fX6_countOf_j39l10
      dsimp only
      rw [← r1, ← r2]
      simp only [Int32.add_zero]
      by_cases d : P i.toNatClampNeg = -1
      · have d2 : P i.toNatClampNeg < 0 := by rw [d]; decide
        have d3 : ¬ P i.toNatClampNeg = -2 := by rw [d]; decide
        rw [if_pos d, if_neg d3, if_pos d2, if_pos d]
        have h := ih (i + 1) (a + 1) b (w + V i.toNatClampNeg) c (by omega) (by omega) (by omega) (by omega) (by omega) (by omega) (by omega) (by omega) (by omega)
        refine ⟨?_, h.2⟩
        rw [h.1]; omega
      · by_cases d3 : P i.toNatClampNeg = -2
        · have d2 : P i.toNatClampNeg < 0 := by rw [d3]; decide
          rw [if_neg d, if_pos d3, if_pos d2, if_neg d]
          have h := ih (i + 1) a (b + 1) w c (by omega) (by omega) (by omega) (by omega) (by omega) (by omega) (by omega) (by omega) (by omega)
          refine ⟨?_, h.2⟩
          rw [h.1]; omega
        · have d2 : ¬ P i.toNatClampNeg < 0 := by
            rw [Int32.lt_iff_toInt_lt]
            rw [← Int32.toInt_inj] at d d3
            omega
          rw [if_neg d, if_neg d3, if_neg d2, if_neg d]
          have h := ih (i + 1) a b w (c + 1) (by omega) (by omega) (by omega) (by omega) (by omega) (by omega) (by omega) (by omega) (by omega)
          refine ⟨?_, h.2⟩
          rw [h.1]; omega
theorem y_cnt {pS hc st hr sR tC bD mC : Int32} {K P V rows : Nat → Int32} (s0 : 0 ≤ st.toInt) (s1 : st.toInt ≤ 255) (t0 : 0 ≤ tC.toInt) (t8 : tC.toInt ≤ 8) (hT : RT tC K P V rows) (x : Int32) : fX5_count sR bD pS hc st tC hr mC P V x = fX6_countOf pS hc st hr sR tC bD mC rows x := by
  unfold fX5_count fX6_countOf fX6_countOf_x10 fX6_countOf_x83
  have e0 : (0 : Int32).toInt = 0 := rfl
  obtain ⟨q1, q2, q3, q4⟩ := y_incells t8 hT 9 0 0 0 0 0 (by decide) t0 (by omega) (by decide) (by decide) (by decide) (by decide) (by decide) (by decide)
  have e4 : fX3_countInCells tC P = (fX6_countOf_l10 tC rows 9 0 0 0).2 := by
    unfold fX3_countInCells fX3_countIn fX3_countIn_x4
    apply Int32.toInt_inj.mp
    rw [Int32.toInt_sub, Int32.toInt_sub]
    simp only [Int.bmod, Nat.reducePow]
    omega
  have e5 : fX3_worthTaken tC P V = (fX6_countOf_l10 tC rows 9 0 0 0).1 := y_worth t8 hT 9 0 0 0 (by decide)
  rw [y_bits s0 s1, e4, e5]
theorem s_count (k : Nat) (x_page_letters : Nat → Int32) (x_page_size : Int32) (x_ground_levels : Nat → Int32) (x_ground_heights : Nat → Int32) (x_ground_heightCount : Int32) (x_ground_stairs : Int32) (x_now_kinds : Nat → Int32) (x_now_places : Nat → Int32) (x_now_worths : Nat → Int32) (x_now_thingCount : Int32) (x_now_barge : Int32) (x_now_hour : Int32) (x_now_markCount : Int32) (x_now_marks : Nat → Int32) (x_now_markHour : Int32) (x_kept_kinds : Nat → Int32) (x_kept_places : Nat → Int32) (x_kept_worths : Nat → Int32) (x_kept_thingCount : Int32) (x_kept_barge : Int32) (x_kept_hour : Int32) (x_kept_markCount : Int32) (x_kept_marks : Nat → Int32) (x_kept_markHour : Int32) (x_shoresRead : Int32) (x_bestsDone : Int32) (x_keptAtShore : Int32) (m_page : Nat → Int32) (m_pageMany : Int32) (m_heightMany : Int32) (m_stairs : Int32) (m_hourNow : Int32) (m_bargeAt : Int32) (m_shoresRead : Int32) (m_levels : Nat → Int32) (m_heights : Nat → Int32) (m_things : Int32) (m_rows : Nat → Int32) (m_done : Int32) (m_markHour : Int32) (m_markMany : Int32) (m_marks : Nat → Int32) (m_keptShore : Int32) (m_keptThings : Int32) (m_keptBarge : Int32) (m_keptHour : Int32) (m_keptMarkHour : Int32) (m_keptMarkMany : Int32) (m_keptRows : Nat → Int32) (m_keptMarks : Nat → Int32) (x1 : Int32) (hk : k ≤ 64) (h : RR k x_page_letters x_page_size x_ground_levels x_ground_heights x_ground_heightCount x_ground_stairs x_now_kinds x_now_places x_now_worths x_now_thingCount x_now_barge x_now_hour x_now_markCount x_now_marks x_now_markHour x_kept_kinds x_kept_places x_kept_worths x_kept_thingCount x_kept_barge x_kept_hour x_kept_markCount x_kept_marks x_kept_markHour x_shoresRead x_bestsDone x_keptAtShore m_page m_pageMany m_heightMany m_stairs m_hourNow m_bargeAt m_shoresRead m_levels m_heights m_things m_rows m_done m_markHour m_markMany m_marks m_keptShore m_keptThings m_keptBarge m_keptHour m_keptMarkHour m_keptMarkMany m_keptRows m_keptMarks) : (fX5_count x_shoresRead x_bestsDone x_page_size x_ground_heightCount x_ground_stairs x_now_thingCount x_now_hour x_now_markCount x_now_places x_now_worths x1) = (fX6_count m_pageMany m_heightMany m_stairs m_hourNow m_shoresRead m_things m_done m_markMany m_rows x1) ∧ RR (k + 1) x_page_letters x_page_size x_ground_levels x_ground_heights x_ground_heightCount x_ground_stairs x_now_kinds x_now_places x_now_worths x_now_thingCount x_now_barge x_now_hour x_now_markCount x_now_marks x_now_markHour x_kept_kinds x_kept_places x_kept_worths x_kept_thingCount x_kept_barge x_kept_hour x_kept_markCount x_kept_marks x_kept_markHour x_shoresRead x_bestsDone x_keptAtShore m_page m_pageMany m_heightMany m_stairs m_hourNow m_bargeAt m_shoresRead m_levels m_heights m_things m_rows m_done m_markHour m_markMany m_marks m_keptShore m_keptThings m_keptBarge m_keptHour m_keptMarkHour m_keptMarkMany m_keptRows m_keptMarks := by
  obtain ⟨⟨e1, e2, e3, e4, e5, e6, e7, e8, e9, e10⟩, hB, hP, hG, hT, hM, hK, hW, hW2⟩ := h
  subst e1 e2 e3 e4 e5 e6 e7 e8 e9 e10
  obtain ⟨b1, b2, b3, b4, b5, b6, b7, b8, b9, b10, b11⟩ := id hB
  refine ⟨?_, ⟨rfl, rfl, rfl, rfl, rfl, rfl, rfl, rfl, rfl, rfl⟩, hB.up, hP, hG, hT, hM, hK.up, hW, hW2⟩
  exact y_cnt b3.1 b3.2 b4.1 b4.2 hT x1
