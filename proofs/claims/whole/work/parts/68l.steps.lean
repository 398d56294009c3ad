theorem y_hbA {pS : Int32} {p : Nat → Int32} (h : ∀ j : Nat, 9 ≤ j → (j : Int) < pS.toInt → ¬ p j = 59) (s32 : pS.toInt ≤ 32) : ∀ (n : Nat) (i : Int32), 9 ≤ i.toInt → i.toInt ≤ 32 → 32 - i.toInt < n → fX2_heightsBehind_l3 pS p n i = -1 := by
  intro n
  induction n with
  | zero => intro i i0 i32 hf; exfalso; omega
  | succ n ih =>
    intro i i0 i32 hf
    rw [fX2_heightsBehind_l3]
    by_cases q : pS ≤ i
    · rw [if_pos q]
    · rw [if_neg q]
      rw [Int32.le_iff_toInt_le] at q
      have ci := z_clampN (x := i) (by omega)
      have ei : (i + 1).toInt = i.toInt + 1 := y_add (by omega) (by omega) (by decide) (by decide)
      rw [if_neg (h i.toNatClampNeg (by omega) (by omega))]
      exact ih (i + 1) (by omega) (by omega) (by omega)
theorem y_hbB {pS hb : Int32} {p : Nat → Int32} (h : ∀ j : Nat, 9 ≤ j → (j : Int) < hb.toInt → ¬ p j = 59) (h59 : p hb.toNatClampNeg = 59) (hs : hb.toInt < pS.toInt) (s32 : pS.toInt ≤ 32) : ∀ (n : Nat) (i : Int32), 9 ≤ i.toInt → i.toInt ≤ hb.toInt → hb.toInt - i.toInt < n → fX2_heightsBehind_l3 pS p n i = hb := by
  intro n
  induction n with
  | zero => intro i i0 i32 hf; exfalso; omega
  | succ n ih =>
    intro i i0 i32 hf
    rw [fX2_heightsBehind_l3]
    rw [if_neg (by rw [Int32.le_iff_toInt_le]; omega)]
    have ci := z_clampN (x := i) (by omega)
    have ei : (i + 1).toInt = i.toInt + 1 := y_add (by omega) (by omega) (by decide) (by decide)
    by_cases q : i = hb
    · rw [q, if_pos h59]
    · rw [← Int32.toInt_inj] at q
      rw [if_neg (h i.toNatClampNeg (by omega) (by omega))]
      exact ih (i + 1) (by omega) (by omega) (by omega)
theorem y_lev {p : Nat → Int32} : ∀ (n : Nat) (i : Int32) (q : Nat → Int32), 0 ≤ i.toInt → i.toInt ≤ 8 → 8 - i.toInt < n → ∀ j : Nat, j < 8 → fX4_readFrom_l7 p n i q j = if (j : Int) < i.toInt then q j else p j - 48 := by
  intro n
  induction n with
  | zero => intro i q h0 h1 h2; exfalso; omega
  | succ n ih =>
    intro i q h0 h1 h2 j hj
    rw [fX4_readFrom_l7]
    have e8 : (8 : Int32).toInt = 8 := rfl
    by_cases c : (8 : Int32) ≤ i
    · rw [if_pos c]
      rw [Int32.le_iff_toInt_le, e8] at c
      rw [if_pos (by omega)]
    · rw [if_neg c]
      rw [Int32.le_iff_toInt_le, e8] at c
      have e : (i + 1).toInt = i.toInt + 1 := y_add (by omega) (by omega) (by decide) (by decide)
      rw [ih (i + 1) _ (by omega) (by omega) (by omega) j hj, e]
      have en := z_clampN h0
      by_cases d : (j : Int) < i.toInt
      · rw [if_pos (by omega), if_pos d, pk_un (by omega)]
      · rw [if_neg d]
        by_cases d2 : (j : Int) < i.toInt + 1
        · have ej : j = i.toNatClampNeg := by omega
          rw [if_pos d2, ej, pk_us]
        · rw [if_neg d2]
theorem y_lev2 {p : Nat → Int32} : ∀ (n : Nat) (i : Int32) (q : Nat → Int32), 0 ≤ i.toInt → i.toInt ≤ 8 → 8 - i.toInt < n → ∀ j : Nat, j < 8 → fX6_shore_l32 p n i q j = if (j : Int) < i.toInt then q j else p j := by
  intro n
  induction n with
  | zero => intro i q h0 h1 h2; exfalso; omega
  | succ n ih =>
    intro i q h0 h1 h2 j hj
    rw [fX6_shore_l32]
    have e8 : (8 : Int32).toInt = 8 := rfl
    by_cases c : (8 : Int32) ≤ i
    · rw [if_pos c]
      rw [Int32.le_iff_toInt_le, e8] at c
      rw [if_pos (by omega)]
    · rw [if_neg c]
      rw [Int32.le_iff_toInt_le, e8] at c
      have e : (i + 1).toInt = i.toInt + 1 := y_add (by omega) (by omega) (by decide) (by decide)
      rw [ih (i + 1) _ (by omega) (by omega) (by omega) j hj, e]
      have en := z_clampN h0
      by_cases d : (j : Int) < i.toInt
      · rw [if_pos (by omega), if_pos d, pk_un (by omega)]
      · rw [if_neg d]
        by_cases d2 : (j : Int) < i.toInt + 1
        · have ej : j = i.toNatClampNeg := by omega
          rw [if_pos d2, ej, pk_us]
        · rw [if_neg d2]
theorem y_hts2 {p : Nat → Int32} : ∀ (n : Nat) (i : Int32) (q : Nat → Int32), 0 ≤ i.toInt → i.toInt ≤ 12 → 12 - i.toInt < n → ∀ j : Nat, j < 12 → fX6_shore_l58 p n i q j = if (j : Int) < i.toInt then q j else p j := by
  intro n
  induction n with
  | zero => intro i q h0 h1 h2; exfalso; omega
  | succ n ih =>
    intro i q h0 h1 h2 j hj
    rw [fX6_shore_l58]
    have e8 : (12 : Int32).toInt = 12 := rfl
    by_cases c : (12 : Int32) ≤ i
    · rw [if_pos c]
      rw [Int32.le_iff_toInt_le, e8] at c
      rw [if_pos (by omega)]
    · rw [if_neg c]
      rw [Int32.le_iff_toInt_le, e8] at c
      have e : (i + 1).toInt = i.toInt + 1 := y_add (by omega) (by omega) (by decide) (by decide)
      rw [ih (i + 1) _ (by omega) (by omega) (by omega) j hj, e]
      have en := z_clampN h0
      by_cases d : (j : Int) < i.toInt
      · rw [if_pos (by omega), if_pos d, pk_un (by omega)]
      · rw [if_neg d]
        by_cases d2 : (j : Int) < i.toInt + 1
        · have ej : j = i.toNatClampNeg := by omega
          rw [if_pos d2, ej, pk_us]
        · rw [if_neg d2]
theorem y_sts {pS hb : Int32} {p : Nat → Int32} (hh : fX2_heightsBehind pS p = hb) (hb32 : hb.toInt ≤ 32) : ∀ (n : Nat) (i : Int32), 9 ≤ i.toInt → i.toInt ≤ hb.toInt → hb.toInt - i.toInt < n → fX4_readFrom_l42 pS p n i (y_or p (i.toNatClampNeg - 9)) = y_or p (hb.toNatClampNeg - 9) := by
  intro n
  induction n with
  | zero => intro i i0 i1 hf; exfalso; omega
  | succ n ih =>
    intro i i0 i1 hf
    rw [fX4_readFrom_l42, hh]
    by_cases q : hb ≤ i
    · rw [if_pos q]
      rw [Int32.le_iff_toInt_le] at q
      have e : i = hb := by rw [← Int32.toInt_inj]; omega
      rw [e]
    · rw [if_neg q]
      rw [Int32.le_iff_toInt_le] at q
      have ci := z_clampN (x := i) (by omega)
      have ei : (i + 1).toInt = i.toInt + 1 := y_add (by omega) (by omega) (by decide) (by decide)
      have ci1 := z_clampN (x := i + 1) (by omega)
      have h := ih (i + 1) (by omega) (by omega) (by omega)
      rw [show (i + 1).toNatClampNeg - 9 = (i.toNatClampNeg - 9) + 1 from by omega, y_or, show 9 + (i.toNatClampNeg - 9) = i.toNatClampNeg from by omega] at h
      exact h
theorem y_hts {pS hb : Int32} {p : Nat → Int32} (hb0 : 0 ≤ hb.toInt) (hs : hb.toInt < pS.toInt) (s32 : pS.toInt ≤ 32) (h12 : pS.toInt - hb.toInt - 1 ≤ 12) : ∀ (n : Nat) (i c : Int32) (q : Nat → Int32), 0 ≤ c.toInt → i.toInt = hb.toInt + 1 + c.toInt → i.toInt ≤ pS.toInt → pS.toInt - i.toInt < n → (fX4_readFrom_l82 pS p n i q c).2.toInt = pS.toInt - hb.toInt - 1 ∧ ∀ j : Nat, (j : Int) < pS.toInt - hb.toInt - 1 → (fX4_readFrom_l82 pS p n i q c).1 j = if (j : Int) < c.toInt then q j else p (hb.toNatClampNeg + 1 + j) - 48 := by
  intro n
  induction n with
  | zero => intro i c q h0 h1 h2 hf; exfalso; omega
  | succ n ih =>
    intro i c q h0 h1 h2 hf
    rw [fX4_readFrom_l82]
    by_cases d : pS ≤ i
    · rw [if_pos d]
      rw [Int32.le_iff_toInt_le] at d
      refine ⟨by show c.toInt = _; omega, ?_⟩
      intro j hj
      rw [if_pos (by omega)]
    · rw [if_neg d]
      rw [Int32.le_iff_toInt_le] at d
      have e12 : (12 : Int32).toInt = 12 := rfl
      rw [if_neg (by rw [Int32.le_iff_toInt_le, e12]; omega)]
      have ei : (i + 1).toInt = i.toInt + 1 := y_add (by omega) (by omega) (by decide) (by decide)
      have ec : (c + 1).toInt = c.toInt + 1 := y_add (by omega) (by omega) (by decide) (by decide)
      have ci := z_clampN (x := i) (by omega)
      have cc := z_clampN h0
      have cb := z_clampN hb0
      obtain ⟨r1, r2⟩ := ih (i + 1) (c + 1) (upd q c.toNatClampNeg (p i.toNatClampNeg - 48)) (by omega) (by omega) (by omega) (by omega)
      refine ⟨r1, ?_⟩
      intro j hj
      rw [r2 j hj, ec]
      by_cases d1 : (j : Int) < c.toInt
      · rw [if_pos (by omega), if_pos d1, pk_un (by omega)]
      · rw [if_neg d1]
        by_cases d2 : (j : Int) < c.toInt + 1
        · have ej : j = c.toNatClampNeg := by omega
          rw [if_pos d2, ej, pk_us, show hb.toNatClampNeg + 1 + c.toNatClampNeg = i.toNatClampNeg from by omega]
        · rw [if_neg d2]
theorem s_shore (k : Nat) (x_page_letters : Nat → Int32) (x_page_size : Int32) (x_ground_levels : Nat → Int32) (x_ground_heights : Nat → Int32) (x_ground_heightCount : Int32) (x_ground_stairs : Int32) (x_now_kinds : Nat → Int32) (x_now_places : Nat → Int32) (x_now_worths : Nat → Int32) (x_now_thingCount : Int32) (x_now_barge : Int32) (x_now_hour : Int32) (x_now_markCount : Int32) (x_now_marks : Nat → Int32) (x_now_markHour : Int32) (x_kept_kinds : Nat → Int32) (x_kept_places : Nat → Int32) (x_kept_worths : Nat → Int32) (x_kept_thingCount : Int32) (x_kept_barge : Int32) (x_kept_hour : Int32) (x_kept_markCount : Int32) (x_kept_marks : Nat → Int32) (x_kept_markHour : Int32) (x_shoresRead : Int32) (x_bestsDone : Int32) (x_keptAtShore : Int32) (m_page : Nat → Int32) (m_pageMany : Int32) (m_heightMany : Int32) (m_stairs : Int32) (m_hourNow : Int32) (m_bargeAt : Int32) (m_shoresRead : Int32) (m_levels : Nat → Int32) (m_heights : Nat → Int32) (m_things : Int32) (m_rows : Nat → Int32) (m_done : Int32) (m_markHour : Int32) (m_markMany : Int32) (m_marks : Nat → Int32) (m_keptShore : Int32) (m_keptThings : Int32) (m_keptBarge : Int32) (m_keptHour : Int32) (m_keptMarkHour : Int32) (m_keptMarkMany : Int32) (m_keptRows : Nat → Int32) (m_keptMarks : Nat → Int32) (m_readLevels : Nat → Int32) (m_readHeights : Nat → Int32) (hk : k ≤ 64) (h : RR k x_page_letters x_page_size x_ground_levels x_ground_heights x_ground_heightCount x_ground_stairs x_now_kinds x_now_places x_now_worths x_now_thingCount x_now_barge x_now_hour x_now_markCount x_now_marks x_now_markHour x_kept_kinds x_kept_places x_kept_worths x_kept_thingCount x_kept_barge x_kept_hour x_kept_markCount x_kept_marks x_kept_markHour x_shoresRead x_bestsDone x_keptAtShore m_page m_pageMany m_heightMany m_stairs m_hourNow m_bargeAt m_shoresRead m_levels m_heights m_things m_rows m_done m_markHour m_markMany m_marks m_keptShore m_keptThings m_keptBarge m_keptHour m_keptMarkHour m_keptMarkMany m_keptRows m_keptMarks) : (fX5_shore x_shoresRead x_page_size x_page_letters x_ground_heightCount x_ground_stairs x_ground_levels x_ground_heights x_now_thingCount x_now_barge x_now_hour x_now_markCount).1 = (fX6_shore m_pageMany m_heightMany m_stairs m_hourNow m_bargeAt m_shoresRead m_things m_markMany m_page m_readLevels m_readHeights m_levels m_heights).1 ∧ RR (k + 1) x_page_letters ((fX5_shore x_shoresRead x_page_size x_page_letters x_ground_heightCount x_ground_stairs x_ground_levels x_ground_heights x_now_thingCount x_now_barge x_now_hour x_now_markCount).2.1) ((fX5_shore x_shoresRead x_page_size x_page_letters x_ground_heightCount x_ground_stairs x_ground_levels x_ground_heights x_now_thingCount x_now_barge x_now_hour x_now_markCount).2.2.1) ((fX5_shore x_shoresRead x_page_size x_page_letters x_ground_heightCount x_ground_stairs x_ground_levels x_ground_heights x_now_thingCount x_now_barge x_now_hour x_now_markCount).2.2.2.1) ((fX5_shore x_shoresRead x_page_size x_page_letters x_ground_heightCount x_ground_stairs x_ground_levels x_ground_heights x_now_thingCount x_now_barge x_now_hour x_now_markCount).2.2.2.2.1) ((fX5_shore x_shoresRead x_page_size x_page_letters x_ground_heightCount x_ground_stairs x_ground_levels x_ground_heights x_now_thingCount x_now_barge x_now_hour x_now_markCount).2.2.2.2.2.1) x_now_kinds x_now_places x_now_worths ((fX5_shore x_shoresRead x_page_size x_page_letters x_ground_heightCount x_ground_stairs x_ground_levels x_ground_heights x_now_thingCount x_now_barge x_now_hour x_now_markCount).2.2.2.2.2.2.1) ((fX5_shore x_shoresRead x_page_size x_page_letters x_ground_heightCount x_ground_stairs x_ground_levels x_ground_heights x_now_thingCount x_now_barge x_now_hour x_now_markCount).2.2.2.2.2.2.2.1) ((fX5_shore x_shoresRead x_page_size x_page_letters x_ground_heightCount x_ground_stairs x_ground_levels x_ground_heights x_now_thingCount x_now_barge x_now_hour x_now_markCount).2.2.2.2.2.2.2.2.1) ((fX5_shore x_shoresRead x_page_size x_page_letters x_ground_heightCount x_ground_stairs x_ground_levels x_ground_heights x_now_thingCount x_now_barge x_now_hour x_now_markCount).2.2.2.2.2.2.2.2.2.1) x_now_marks x_now_markHour x_kept_kinds x_kept_places x_kept_worths x_kept_thingCount x_kept_barge x_kept_hour x_kept_markCount x_kept_marks x_kept_markHour ((fX5_shore x_shoresRead x_page_size x_page_letters x_ground_heightCount x_ground_stairs x_ground_levels x_ground_heights x_now_thingCount x_now_barge x_now_hour x_now_markCount).2.2.2.2.2.2.2.2.2.2) x_bestsDone x_keptAtShore m_page ((fX6_shore m_pageMany m_heightMany m_stairs m_hourNow m_bargeAt m_shoresRead m_things m_markMany m_page m_readLevels m_readHeights m_levels m_heights).2.1) ((fX6_shore m_pageMany m_heightMany m_stairs m_hourNow m_bargeAt m_shoresRead m_things m_markMany m_page m_readLevels m_readHeights m_levels m_heights).2.2.2.2.2.2.2.1) ((fX6_shore m_pageMany m_heightMany m_stairs m_hourNow m_bargeAt m_shoresRead m_things m_markMany m_page m_readLevels m_readHeights m_levels m_heights).2.2.2.2.2.2.2.2.1) ((fX6_shore m_pageMany m_heightMany m_stairs m_hourNow m_bargeAt m_shoresRead m_things m_markMany m_page m_readLevels m_readHeights m_levels m_heights).2.2.2.2.2.2.2.2.2.1) ((fX6_shore m_pageMany m_heightMany m_stairs m_hourNow m_bargeAt m_shoresRead m_things m_markMany m_page m_readLevels m_readHeights m_levels m_heights).2.2.2.2.2.2.2.2.2.2.1) ((fX6_shore m_pageMany m_heightMany m_stairs m_hourNow m_bargeAt m_shoresRead m_things m_markMany m_page m_readLevels m_readHeights m_levels m_heights).2.2.2.2.2.2.2.2.2.2.2.1) ((fX6_shore m_pageMany m_heightMany m_stairs m_hourNow m_bargeAt m_shoresRead m_things m_markMany m_page m_readLevels m_readHeights m_levels m_heights).2.2.2.2.2.2.2.2.2.2.2.2.1) ((fX6_shore m_pageMany m_heightMany m_stairs m_hourNow m_bargeAt m_shoresRead m_things m_markMany m_page m_readLevels m_readHeights m_levels m_heights).2.2.2.2.2.2.2.2.2.2.2.2.2.1) ((fX6_shore m_pageMany m_heightMany m_stairs m_hourNow m_bargeAt m_shoresRead m_things m_markMany m_page m_readLevels m_readHeights m_levels m_heights).2.2.2.2.2.2.2.2.2.2.2.2.2.2.1) m_rows m_done m_markHour ((fX6_shore m_pageMany m_heightMany m_stairs m_hourNow m_bargeAt m_shoresRead m_things m_markMany m_page m_readLevels m_readHeights m_levels m_heights).2.2.2.2.2.2.2.2.2.2.2.2.2.2.2) m_marks m_keptShore m_keptThings m_keptBarge m_keptHour m_keptMarkHour m_keptMarkMany m_keptRows m_keptMarks := by
  obtain ⟨⟨e1, e2, e3, e4, e5, e6, e7, e8, e9, e10⟩, hB, hP, hG, hT, hM, hK, hW, hW2⟩ := h
  subst e1 e2 e3 e4 e5 e6 e7 e8 e9 e10
  obtain ⟨b1, b2, b3, b4, b5, b6, b7, b8, b9, b10, b11⟩ := id hB
  have e0 : (0 : Int32).toInt = 0 := rfl
  have e1 : (1 : Int32).toInt = 1 := rfl
  have e2 : (2 : Int32).toInt = 2 := rfl
  have e9 : (9 : Int32).toInt = 9 := rfl
  unfold fX5_shore fX6_shore fX6_shore_c1
  obtain ⟨f1, f2⟩ := y_faultz hP b1.1 b1.2 m_readLevels m_readHeights
  generalize fX6_faultOf x_page_size m_page m_readLevels m_readHeights = R at f1 f2 ⊢
  obtain ⟨r, L, H, rs, rm, part⟩ := R
  simp only at f1 f2 ⊢
  rcases f2 with lt | ⟨rfl, hb, st, hL, rfl, ⟨s0, s1⟩, hc⟩
  · have is0 : fX2_isShore x_page_size x_page_letters = 0 := by
      unfold fX2_isShore
      rw [f1, if_neg (by rw [← Int32.toInt_inj]; omega : ¬ r = x_page_size), ite_self, ite_self]
    have q : r < x_page_size := by rw [Int32.lt_iff_toInt_lt]; exact lt
    simp only [if_pos is0, if_pos q]
    exact ⟨by first | rfl | trivial, ⟨rfl, rfl, rfl, rfl, rfl, rfl, rfl, rfl, rfl, rfl⟩, hB.up, hP, hG, hT, hM, hK.up, hW, hW2⟩
  · have q : ¬ r < r := by rw [Int32.lt_iff_toInt_lt]; omega
    rcases hc with ⟨rfl, rfl, rfl, rfl, i8⟩ | ⟨rfl, rfl, i9, hm, hs, ho, hn⟩ | ⟨rfl, h10, bi, hm, m12, ho, hn, hb59, hH⟩
    · have ish : fX2_isShore rm x_page_letters = 0 := by
        unfold fX2_isShore
        rw [if_pos (show fX2_heightsBehind rm x_page_letters = -1 from y_hbA (fun j j9 jl => by exfalso; omega) b1.2 33 9 (by decide) (by decide) (by decide))]
      simp only [if_pos ish, if_neg q, if_neg (by decide : ¬ (0 : Int32) = 2)]
      exact ⟨by first | rfl | trivial, ⟨rfl, rfl, rfl, rfl, rfl, rfl, rfl, rfl, rfl, rfl⟩, hB.up, hP, hG, hT, hM, hK.up, hW, hW2⟩
    · have ish : fX2_isShore r x_page_letters = 0 := by
        unfold fX2_isShore
        rw [if_pos (show fX2_heightsBehind r x_page_letters = -1 from y_hbA hn b1.2 33 9 (by decide) (by decide) (by decide))]
      simp only [if_pos ish, if_neg q, if_neg (by decide : ¬ (1 : Int32) = 2)]
      exact ⟨by first | rfl | trivial, ⟨rfl, rfl, rfl, rfl, rfl, rfl, rfl, rfl, rfl, rfl⟩, hB.up, hP, hG, hT, hM, hK.up, hW, hW2⟩
    · have hh : fX2_heightsBehind r x_page_letters = hb := y_hbB hn hb59 bi b1.2 33 9 (by decide) (by omega) (by omega)
      have qh : ¬ hb = -1 := by intro h; rw [h] at h10; exact absurd h10 (by decide)
      have ed : (r - 1 - hb).toInt = rm.toInt := by
        rw [Int32.toInt_sub, Int32.toInt_sub, e1]; simp only [Int.bmod, Nat.reducePow]; omega
      by_cases q2 : (2 : Int32) ≤ rm
      · have q2' := q2
        rw [Int32.le_iff_toInt_le, e2] at q2'
        have ish : ¬ fX2_isShore r x_page_letters = 0 := by
          unfold fX2_isShore
          rw [hh, if_neg qh, if_neg (by rw [Int32.lt_iff_toInt_lt, ed, e2]; omega), if_pos f1]
          decide
        simp only [if_neg ish, if_neg q, if_pos (rfl : (2 : Int32) = 2), if_true, if_pos q2, fX5_shore_c21, fX5_shore_c28, fX6_shore_x32, fX6_shore_x58, fX4_readFrom, fX4_readFrom_x7, fX4_readFrom_x42, fX4_readFrom_x82, fX3_clear, hh]
        have cb := z_clampN (x := hb) (by omega)
        have est : fX4_readFrom_l42 r x_page_letters 33 9 0 = st := by
          have h := y_sts hh (by omega) 33 9 (by decide) (by omega) (by omega)
          rw [ho]; exact h
        have eb1 : (hb + 1).toInt = hb.toInt + 1 := y_add (by omega) (by omega) (by decide) (by decide)
        obtain ⟨t1, t2⟩ := y_hts (p := x_page_letters) (by omega) bi b1.2 (by omega) 33 (hb + 1) 0 x_ground_heights (by decide) (by omega) (by omega) (by omega)
        have ec : (fX4_readFrom_l82 r x_page_letters 33 (hb + 1) x_ground_heights 0).2 = rm := by rw [← Int32.toInt_inj, t1]; omega
        rw [est, ec]
        have hsr : (x_shoresRead + 1).toInt = x_shoresRead.toInt + 1 := y_add (by omega) (by omega) (by decide) (by decide)
        refine ⟨rfl, ⟨rfl, rfl, rfl, rfl, rfl, rfl, rfl, rfl, rfl, rfl⟩, ⟨by decide, by omega, ⟨s0, s1⟩, by decide, by decide, ⟨by decide, by omega⟩, by decide, b8, ⟨by omega, by omega⟩, b10, Or.inr ⟨by omega, by omega⟩⟩, ?_, ⟨?_, ?_⟩, ?_, ?_, ?_, hW, hW2⟩
        · intro j jl; exfalso; omega
        · intro j j8
          obtain ⟨l1, l2, l3⟩ := hL j j8 (by omega)
          rw [y_lev 9 0 x_ground_levels (by decide) (by decide) (by decide) j j8, y_lev2 9 0 m_levels (by decide) (by decide) (by decide) j j8, if_neg (by omega), if_neg (by omega), l1]
          exact ⟨rfl, l2, l3⟩
        · intro j jl
          obtain ⟨l1, _⟩ := hH j jl
          rw [y_hts2 13 0 m_heights (by decide) (by decide) (by decide) j (by omega), t2 j (by omega), if_neg (by omega), if_neg (by omega), l1]
        · intro j jl; exfalso; omega
        · intro j jl; exfalso; omega
        · rcases hK with k1 | ⟨k1, k2, k3, k4, k5, k6, k7, k8, k9, k10⟩
          · exact Or.inl k1
          · exact Or.inr ⟨k1, ⟨k2.1, by omega⟩, k3, k4, k5, ⟨k6.1, by omega⟩, k7, k8, k9, k10⟩
      · have q2' := q2
        rw [Int32.le_iff_toInt_le, e2] at q2'
        have ish : fX2_isShore r x_page_letters = 0 := by
          unfold fX2_isShore
          rw [hh, if_neg qh, if_pos (by rw [Int32.lt_iff_toInt_lt, ed, e2]; omega)]
        simp only [if_pos ish, if_neg q, if_pos (rfl : (2 : Int32) = 2), if_true, if_neg q2]
        exact ⟨by first | rfl | trivial, ⟨rfl, rfl, rfl, rfl, rfl, rfl, rfl, rfl, rfl, rfl⟩, hB.up, hP, hG, hT, hM, hK.up, hW, hW2⟩
