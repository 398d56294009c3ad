set_option maxRecDepth 100000 in
set_option maxHeartbeats 8000000 in
theorem y_near2_all : ∀ c : Fin 8, ∀ p : Fin 8, ∀ s : Fin 256, jshr (Int32.ofNat s.val) (Int32.ofNat c.val) &&& 1 = 0 → fX4_nearestStair (Int32.ofNat s.val) (Int32.ofNat p.val) (Int32.ofNat c.val) = fX6_nearest (Int32.ofNat p.val) (Int32.ofNat s.val ||| jshl 1 (Int32.ofNat c.val)) := by decide +kernel
theorem y_near2 {p s c : Int32} (p0 : 0 ≤ p.toInt) (p1 : p.toInt ≤ 7) (s0 : 0 ≤ s.toInt) (s1 : s.toInt ≤ 255) (c0 : 0 ≤ c.toInt) (c1 : c.toInt ≤ 7) (h0 : jshr s c &&& 1 = 0) : fX4_nearestStair s p c = fX6_nearest p (s ||| jshl 1 c) := by
  have cp := z_clampN p0
  have cs := z_clampN s0
  have cc := z_clampN c0
  have ep : Int32.ofNat p.toNatClampNeg = p := Int32.toInt_inj.mp (by rw [Int32.toInt_ofNat_of_lt (by omega)]; omega)
  have es : Int32.ofNat s.toNatClampNeg = s := Int32.toInt_inj.mp (by rw [Int32.toInt_ofNat_of_lt (by omega)]; omega)
  have ec : Int32.ofNat c.toNatClampNeg = c := Int32.toInt_inj.mp (by rw [Int32.toInt_ofNat_of_lt (by omega)]; omega)
  have h := y_near2_all ⟨c.toNatClampNeg, by omega⟩ ⟨p.toNatClampNeg, by omega⟩ ⟨s.toNatClampNeg, by omega⟩
  simp only [ep, es, ec] at h
  exact h h0
theorem y_share2 {tC x s : Int32} {K P V rows : Nat → Int32} (t8 : tC.toInt ≤ 8) (x0 : 0 ≤ x.toInt) (x1 : x.toInt ≤ 7) (s0 : 0 ≤ s.toInt) (s1 : s.toInt ≤ 255) (h0 : jshr s x &&& 1 = 0) (hT : RT tC K P V rows) : ∀ (n : Nat) (i c : Int32), 0 ≤ i.toInt → fX3_worthBelonging_l6 tC P V s x x n i c = fX6_shareOf_l5 tC rows x (s ||| jshl 1 x) n i c := by
  intro n
  induction n with
  | zero => intro i c i0; rw [fX3_worthBelonging_l6, fX6_shareOf_l5]
  | succ n ih =>
    intro i c i0
    rw [fX3_worthBelonging_l6, fX6_shareOf_l5]
    by_cases q : tC ≤ i
    · rw [if_pos q, if_pos q]
    · rw [if_neg q, if_neg q]
      rw [Int32.le_iff_toInt_le] at q
      obtain ⟨r0, r1, r2, r3, r4, r5, r6, r7, r8⟩ := hT.at i0 (by omega) (by omega)
      have ei : (i + 1).toInt = i.toInt + 1 := y_add (by omega) (by omega) (by decide) (by decide)
      rw [← r1, ← r2, Int32.add_zero, ih (i + 1) _ (by omega), ih (i + 1) _ (by omega)]
      by_cases d : P i.toNatClampNeg < 0
      · rw [if_pos d]
        have d' := d
        rw [Int32.lt_iff_toInt_lt] at d'
        have e0 : (0 : Int32).toInt = 0 := rfl
        have e1 : fX4_nearestStair s (P i.toNatClampNeg) x = -1 := by
          unfold fX4_nearestStair
          rw [if_pos (y_cell0 (Or.inl (by omega)))]
        rw [e1, if_neg (by intro e; rw [← e] at x0; exact absurd x0 (by decide))]
      · rw [if_neg d]
        rw [Int32.lt_iff_toInt_lt] at d
        have e0 : (0 : Int32).toInt = 0 := rfl
        rw [y_near2 (by omega) r6 s0 s1 x0 x1 h0]
theorem y_new {tC s : Int32} {K P V rows : Nat → Int32} (t8 : tC.toInt ≤ 8) (s0 : 0 ≤ s.toInt) (s1 : s.toInt ≤ 255) (hT : RT tC K P V rows) : ∀ (n : Nat) (i b w : Int32), 0 ≤ i.toInt → fX5_newStair_l16 s tC P V n i b w = fX6_newStairOf_l6 s tC rows n i b w := by
  intro n
  induction n with
  | zero => intro i b w i0; rw [fX5_newStair_l16, fX6_newStairOf_l6]
  | succ n ih =>
    intro i b w i0
    rw [fX5_newStair_l16, fX6_newStairOf_l6]
    by_cases q : 8 ≤ i
    · rw [if_pos q, if_pos q]
    · rw [if_neg q, if_neg q]
      rw [Int32.le_iff_toInt_le] at q
      have e8 : (8 : Int32).toInt = 8 := rfl
      have ei : (i + 1).toInt = i.toInt + 1 := y_add (by omega) (by omega) (by decide) (by decide)
      have hj : ∀ z : Int32, fX5_newStair_j50l16 (fun k0_ k1_ k2_ => fX5_newStair_l16 s tC P V n k0_ k1_ k2_) i b w z = fX6_newStairOf_j41l6 (fun k0_ k1_ k2_ => fX6_newStairOf_l6 s tC rows n k0_ k1_ k2_) i b w z := by
        intro z
        unfold fX5_newStair_j50l16 fX6_newStairOf_j41l6 fX6_newStairOf_j54l6
        dsimp only
        rw [ih (i + 1) b w (by omega), ih (i + 1) z i (by omega)]
        by_cases d : z ≤ b
        · simp only [if_pos d]
        · simp only [if_neg d]
      have hc : ¬ fX5_isCell i = 0 := by rw [y_cell1 i0 (by omega)]; decide
      have hh : fX4_hasStair s i = jshr s i &&& 1 := by
        unfold fX4_hasStair
        rw [if_neg hc]
        rcases y_bit1 (jshr s i) with e | e
        · rw [e]; rfl
        · rw [e]; rfl
      rw [hh]
      rcases y_bit1 (jshr s i) with e | e
      · rw [if_pos e, if_neg (by rw [e]; decide), hj]
        unfold fX3_worthBelonging fX3_worthBelonging_x6 fX6_shareOf fX6_shareOf_x5
        rw [y_share2 t8 i0 (by omega) s0 s1 e hT 9 0 0 (by decide)]
      · rw [if_neg (by rw [e]; decide), if_pos e, hj]
theorem s_newStair (k : Nat) (x_page_letters : Nat → Int32) (x_page_size : Int32) (x_ground_levels : Nat → Int32) (x_ground_heights : Nat → Int32) (x_ground_heightCount : Int32) (x_ground_stairs : Int32) (x_now_kinds : Nat → Int32) (x_now_places : Nat → Int32) (x_now_worths : Nat → Int32) (x_now_thingCount : Int32) (x_now_barge : Int32) (x_now_hour : Int32) (x_now_markCount : Int32) (x_now_marks : Nat → Int32) (x_now_markHour : Int32) (x_kept_kinds : Nat → Int32) (x_kept_places : Nat → Int32) (x_kept_worths : Nat → Int32) (x_kept_thingCount : Int32) (x_kept_barge : Int32) (x_kept_hour : Int32) (x_kept_markCount : Int32) (x_kept_marks : Nat → Int32) (x_kept_markHour : Int32) (x_shoresRead : Int32) (x_bestsDone : Int32) (x_keptAtShore : Int32) (m_page : Nat → Int32) (m_pageMany : Int32) (m_heightMany : Int32) (m_stairs : Int32) (m_hourNow : Int32) (m_bargeAt : Int32) (m_shoresRead : Int32) (m_levels : Nat → Int32) (m_heights : Nat → Int32) (m_things : Int32) (m_rows : Nat → Int32) (m_done : Int32) (m_markHour : Int32) (m_markMany : Int32) (m_marks : Nat → Int32) (m_keptShore : Int32) (m_keptThings : Int32) (m_keptBarge : Int32) (m_keptHour : Int32) (m_keptMarkHour : Int32) (m_keptMarkMany : Int32) (m_keptRows : Nat → Int32) (m_keptMarks : Nat → Int32) (hk : k ≤ 64) (h : RR k x_page_letters x_page_size x_ground_levels x_ground_heights x_ground_heightCount x_ground_stairs x_now_kinds x_now_places x_now_worths x_now_thingCount x_now_barge x_now_hour x_now_markCount x_now_marks x_now_markHour x_kept_kinds x_kept_places x_kept_worths x_kept_thingCount x_kept_barge x_kept_hour x_kept_markCount x_kept_marks x_kept_markHour x_shoresRead x_bestsDone x_keptAtShore m_page m_pageMany m_heightMany m_stairs m_hourNow m_bargeAt m_shoresRead m_levels m_heights m_things m_rows m_done m_markHour m_markMany m_marks m_keptShore m_keptThings m_keptBarge m_keptHour m_keptMarkHour m_keptMarkMany m_keptRows m_keptMarks) : (fX5_newStair x_shoresRead x_ground_stairs x_now_thingCount x_now_places x_now_worths) = (fX6_newStair m_heightMany m_stairs m_things m_rows) ∧ RR (k + 1) x_page_letters x_page_size x_ground_levels x_ground_heights x_ground_heightCount x_ground_stairs x_now_kinds x_now_places x_now_worths x_now_thingCount x_now_barge x_now_hour x_now_markCount x_now_marks x_now_markHour x_kept_kinds x_kept_places x_kept_worths x_kept_thingCount x_kept_barge x_kept_hour x_kept_markCount x_kept_marks x_kept_markHour x_shoresRead x_bestsDone x_keptAtShore m_page m_pageMany m_heightMany m_stairs m_hourNow m_bargeAt m_shoresRead m_levels m_heights m_things m_rows m_done m_markHour m_markMany m_marks m_keptShore m_keptThings m_keptBarge m_keptHour m_keptMarkHour m_keptMarkMany m_keptRows m_keptMarks := by
  obtain ⟨⟨e1, e2, e3, e4, e5, e6, e7, e8, e9, e10⟩, hB, hP, hG, hT, hM, hK, hW, hW2⟩ := h
  subst e1 e2 e3 e4 e5 e6 e7 e8 e9 e10
  obtain ⟨b1, b2, b3, b4, b5, b6, b7, b8, b9, b10, b11⟩ := id hB
  refine ⟨?_, ⟨rfl, rfl, rfl, rfl, rfl, rfl, rfl, rfl, rfl, rfl⟩, hB.up, hP, hG, hT, hM, hK.up, hW, hW2⟩
  unfold fX5_newStair fX6_newStair
  rcases y_has b11 with ⟨a, c, _⟩ | ⟨a, c, s1, h2⟩
  · rw [if_pos a, if_neg (show ¬ fX6_lacks x_ground_heightCount = 0 by rw [c]; decide)]
  · rw [if_neg (show ¬ fX5_hasShore x_shoresRead = 0 by rw [a]; decide), if_pos c]
    exact y_new b4.2 b3.1 b3.2 hT 9 0 (-1) (-1) (by decide)
