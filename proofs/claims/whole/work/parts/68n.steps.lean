theorem y_q4_all : ∀ a : Fin 9, (4 * Int32.ofNat a.val) / 4 = Int32.ofNat a.val ∧ jrem (4 * Int32.ofNat a.val) 4 = 0 ∧ (4 * Int32.ofNat a.val + 1) / 4 = Int32.ofNat a.val ∧ jrem (4 * Int32.ofNat a.val + 1) 4 = 1 ∧ (4 * Int32.ofNat a.val + 1 + 1) / 4 = Int32.ofNat a.val ∧ jrem (4 * Int32.ofNat a.val + 1 + 1) 4 = 2 ∧ (4 * Int32.ofNat a.val + 1 + 1 + 1) / 4 = Int32.ofNat a.val ∧ jrem (4 * Int32.ofNat a.val + 1 + 1 + 1) 4 = 3 ∧ 4 * Int32.ofNat a.val + 1 + 1 + 1 + 1 = 4 * (Int32.ofNat a.val + 1) ∧ ∀ t : Fin 9, (Int32.ofNat t.val ≤ Int32.ofNat a.val → 4 * Int32.ofNat t.val ≤ 4 * Int32.ofNat a.val) ∧ (¬ Int32.ofNat t.val ≤ Int32.ofNat a.val → ¬ 4 * Int32.ofNat t.val ≤ 4 * Int32.ofNat a.val ∧ ¬ 4 * Int32.ofNat t.val ≤ 4 * Int32.ofNat a.val + 1 ∧ ¬ 4 * Int32.ofNat t.val ≤ 4 * Int32.ofNat a.val + 1 + 1 ∧ ¬ 4 * Int32.ofNat t.val ≤ 4 * Int32.ofNat a.val + 1 + 1 + 1) := by decide +kernel
theorem y_q4 {a t : Int32} (a0 : 0 ≤ a.toInt) (a8 : a.toInt ≤ 8) (t0 : 0 ≤ t.toInt) (t8 : t.toInt ≤ 8) : (4 * a) / 4 = a ∧ jrem (4 * a) 4 = 0 ∧ (4 * a + 1) / 4 = a ∧ jrem (4 * a + 1) 4 = 1 ∧ (4 * a + 1 + 1) / 4 = a ∧ jrem (4 * a + 1 + 1) 4 = 2 ∧ (4 * a + 1 + 1 + 1) / 4 = a ∧ jrem (4 * a + 1 + 1 + 1) 4 = 3 ∧ 4 * a + 1 + 1 + 1 + 1 = 4 * (a + 1) ∧ (t ≤ a → 4 * t ≤ 4 * a) ∧ (¬ t ≤ a → ¬ 4 * t ≤ 4 * a ∧ ¬ 4 * t ≤ 4 * a + 1 ∧ ¬ 4 * t ≤ 4 * a + 1 + 1 ∧ ¬ 4 * t ≤ 4 * a + 1 + 1 + 1) := by
  have ca := z_clampN a0
  have ct := z_clampN t0
  have ea : Int32.ofNat a.toNatClampNeg = a := Int32.toInt_inj.mp (by rw [Int32.toInt_ofNat_of_lt (by omega)]; omega)
  have et : Int32.ofNat t.toNatClampNeg = t := Int32.toInt_inj.mp (by rw [Int32.toInt_ofNat_of_lt (by omega)]; omega)
  have h := y_q4_all ⟨a.toNatClampNeg, by omega⟩
  simp only [ea] at h
  obtain ⟨h1, h2, h3, h4, h5, h6, h7, h8, h9, h10⟩ := h
  have h11 := h10 ⟨t.toNatClampNeg, by omega⟩
  simp only [et] at h11
  exact ⟨h1, h2, h3, h4, h5, h6, h7, h8, h9, h11.1, h11.2⟩
theorem y_n4 : ¬ (4 : Int32) ≤ 0 ∧ ¬ (4 : Int32) ≤ 0 + 1 ∧ ¬ (4 : Int32) ≤ 0 + 1 + 1 ∧ ¬ (4 : Int32) ≤ 0 + 1 + 1 + 1 ∧ (4 : Int32) ≤ 0 + 1 + 1 + 1 + 1 := by decide
theorem y_e4 : (0 : Int32) + 1 = 1 ∧ (1 : Int32) + 1 = 2 ∧ (2 : Int32) + 1 = 3 := by decide
theorem y_dT {st tC : Int32} {K P V rows : Nat → Int32} (t0 : 0 ≤ tC.toInt) (t8 : tC.toInt ≤ 8) (hab : ∀ a b : Int32, fX5_about st tC K P V a b = fX6_about st tC rows a b) : ∀ (n : Nat) (a : Int32) (acc : Int64), 0 ≤ a.toInt → a.toInt = 8 - (n : Int) → fX5_digest_l19 st tC K P V (n + 1) a acc = fX6_digest_l90 st tC rows (4 * n + 1) (4 * a) acc := by
  intro n
  induction n with
  | zero =>
    intro a acc a0 an
    rw [fX5_digest_l19, fX6_digest_l90]
    have c : tC ≤ a := by rw [Int32.le_iff_toInt_le]; omega
    obtain ⟨h1, h2, h3, h4, h5, h6, h7, h8, h9, h10, h11⟩ := y_q4 (a := a) (t := tC) a0 (by omega) t0 t8
    rw [if_pos c, if_pos (h10 c)]
  | succ n ih =>
    intro a acc a0 an
    rw [fX5_digest_l19, show 4 * (n + 1) + 1 = 4 * n + 1 + 1 + 1 + 1 + 1 from by omega]
    obtain ⟨h1, h2, h3, h4, h5, h6, h7, h8, h9, h10, h11⟩ := y_q4 (a := a) (t := tC) a0 (by omega) t0 t8
    by_cases c : tC ≤ a
    · rw [fX6_digest_l90, if_pos c, if_pos (h10 c)]
    · obtain ⟨g1, g2, g3, g4⟩ := h11 c
      have it : ¬ fX6_isThing tC a = 0 := by
        rcases y_thing (n := tC) (x := a) t0 t8 with ⟨i1, i2⟩ | ⟨i1, i2, i3, i4⟩
        · exfalso
          unfold fX3_isThing at i1
          rw [Int32.le_iff_toInt_le] at c
          rw [if_neg (by rw [Int32.lt_iff_toInt_lt]; show ¬ _ < (0 : Int); omega), if_neg (by rw [Int32.le_iff_toInt_le]; exact c)] at i1
          exact absurd i1 (by decide)
        · rw [i2]; decide
      have hv : ∀ b, fX5_about st tC K P V a b = fX6_tell st rows a b := by
        intro b; rw [hab]; unfold fX6_about; rw [if_neg it]
      have hin : ∀ z : Int64, fX5_digest_l33l19 st tC K P V a 5 0 z = 31 * (31 * (31 * (31 * z + (fX6_tell st rows a 0).toInt64) + (fX6_tell st rows a 1).toInt64) + (fX6_tell st rows a 2).toInt64) + (fX6_tell st rows a 3).toInt64 := by
        intro z
        obtain ⟨f1, f2, f3, f4, f5⟩ := y_n4
        obtain ⟨k1, k2, k3⟩ := y_e4
        rw [fX5_digest_l33l19, if_neg f1, fX5_digest_l33l19, if_neg f2, fX5_digest_l33l19, if_neg f3, fX5_digest_l33l19, if_neg f4, fX5_digest_l33l19, if_pos f5, k1, k2, k3, hv, hv, hv, hv]
      have hout : ∀ z : Int64, fX6_digest_l90 st tC rows (4 * n + 1 + 1 + 1 + 1 + 1) (4 * a) z = fX6_digest_l90 st tC rows (4 * n + 1) (4 * (a + 1)) (31 * (31 * (31 * (31 * z + (fX6_tell st rows a 0).toInt64) + (fX6_tell st rows a 1).toInt64) + (fX6_tell st rows a 2).toInt64) + (fX6_tell st rows a 3).toInt64) := by
        intro z
        rw [fX6_digest_l90, if_neg g1]
        unfold fX6_digest_c112l90 fX6_say
        dsimp only
        rw [fX6_digest_l90, if_neg g2]
        unfold fX6_digest_c112l90 fX6_say
        dsimp only
        rw [fX6_digest_l90, if_neg g3]
        unfold fX6_digest_c112l90 fX6_say
        dsimp only
        rw [fX6_digest_l90, if_neg g4]
        unfold fX6_digest_c112l90 fX6_say
        dsimp only
        rw [h1, h2, h3, h4, h5, h6, h7, h8, h9]
      rw [if_neg c, hin, hout]
      unfold fX5_digest_x33l19
      have ei : (a + 1).toInt = a.toInt + 1 := y_add (by omega) (by omega) (by decide) (by decide)
      exact ih (a + 1) _ (by omega) (by omega)
theorem y_dC {sR hc st tC bg hr : Int32} {L T P L' T' rows : Nat → Int32} (hl : fX6_lacks hc = 0) (hce : ∀ a b : Int32, fX5_cell sR hc st L T tC bg hr P a b = fX6_cell hc st hr bg tC L' T' rows a b) : ∀ (n : Nat) (a : Int32) (acc : Int64), 0 ≤ a.toInt → a.toInt = 8 - (n : Int) → fX5_shoreDigest_l5 sR hc st L T tC bg hr P (n + 1) a acc = fX6_digest_l16 hc st hr bg tC L' T' rows (4 * n + 1) (4 * a) acc := by
  have e48 : (4 : Int32) * 8 = 32 := by decide
  intro n
  induction n with
  | zero =>
    intro a acc a0 an
    rw [fX5_shoreDigest_l5, fX6_digest_l16]
    have c : (8 : Int32) ≤ a := by rw [Int32.le_iff_toInt_le]; show (8 : Int) ≤ _; omega
    obtain ⟨h1, h2, h3, h4, h5, h6, h7, h8, h9, h10, h11⟩ := y_q4 (a := a) (t := 8) a0 (by omega) (by decide) (by decide)
    rw [e48] at h10
    rw [if_pos c, if_pos (h10 c)]
  | succ n ih =>
    intro a acc a0 an
    rw [fX5_shoreDigest_l5, show 4 * (n + 1) + 1 = 4 * n + 1 + 1 + 1 + 1 + 1 from by omega]
    obtain ⟨h1, h2, h3, h4, h5, h6, h7, h8, h9, h10, h11⟩ := y_q4 (a := a) (t := 8) a0 (by omega) (by decide) (by decide)
    rw [e48] at h10 h11
    have c : ¬ (8 : Int32) ≤ a := by rw [Int32.le_iff_toInt_le]; show ¬ (8 : Int) ≤ _; omega
    obtain ⟨g1, g2, g3, g4⟩ := h11 c
    have ic : ¬ fX6_isCell a = 0 := by
      rcases y_cellz a with ⟨i1, i2⟩ | ⟨i1, i2, i3, i4⟩
      · exfalso
        rw [y_cell1 a0 (by omega)] at i1
        exact absurd i1 (by decide)
      · rw [i2]; decide
    have hv : ∀ b : Int32, b = 0 ∨ b = 1 ∨ b = 2 ∨ b = 3 → fX5_cell sR hc st L T tC bg hr P a b = fX6_tellCell hc st hr bg tC L' T' rows a b := by
      intro b hb
      have ib : ¬ fX6_in b.toInt64 0 3 = 0 := by
        rcases hb with rfl | rfl | rfl | rfl <;> decide
      rw [hce]; unfold fX6_cell; rw [if_neg ic, if_neg ib, if_pos hl]
    have hin : ∀ z : Int64, fX5_shoreDigest_l15l5 sR hc st L T tC bg hr P a 5 0 z = 31 * (31 * (31 * (31 * z + (fX6_tellCell hc st hr bg tC L' T' rows a 0).toInt64) + (fX6_tellCell hc st hr bg tC L' T' rows a 1).toInt64) + (fX6_tellCell hc st hr bg tC L' T' rows a 2).toInt64) + (fX6_tellCell hc st hr bg tC L' T' rows a 3).toInt64 := by
      intro z
      obtain ⟨f1, f2, f3, f4, f5⟩ := y_n4
      obtain ⟨k1, k2, k3⟩ := y_e4
      rw [fX5_shoreDigest_l15l5, if_neg f1, fX5_shoreDigest_l15l5, if_neg f2, fX5_shoreDigest_l15l5, if_neg f3, fX5_shoreDigest_l15l5, if_neg f4, fX5_shoreDigest_l15l5, if_pos f5, k1, k2, k3, hv 0 (by decide), hv 1 (by decide), hv 2 (by decide), hv 3 (by decide)]
    have hout : ∀ z : Int64, fX6_digest_l16 hc st hr bg tC L' T' rows (4 * n + 1 + 1 + 1 + 1 + 1) (4 * a) z = fX6_digest_l16 hc st hr bg tC L' T' rows (4 * n + 1) (4 * (a + 1)) (31 * (31 * (31 * (31 * z + (fX6_tellCell hc st hr bg tC L' T' rows a 0).toInt64) + (fX6_tellCell hc st hr bg tC L' T' rows a 1).toInt64) + (fX6_tellCell hc st hr bg tC L' T' rows a 2).toInt64) + (fX6_tellCell hc st hr bg tC L' T' rows a 3).toInt64) := by
      intro z
      rw [fX6_digest_l16, if_neg g1]
      unfold fX6_digest_c34l16 fX6_say
      dsimp only
      rw [fX6_digest_l16, if_neg g2]
      unfold fX6_digest_c34l16 fX6_say
      dsimp only
      rw [fX6_digest_l16, if_neg g3]
      unfold fX6_digest_c34l16 fX6_say
      dsimp only
      rw [fX6_digest_l16, if_neg g4]
      unfold fX6_digest_c34l16 fX6_say
      dsimp only
      rw [h1, h2, h3, h4, h5, h6, h7, h8, h9]
    rw [if_neg c, hin, hout]
    unfold fX5_shoreDigest_x15l5
    have ei : (a + 1).toInt = a.toInt + 1 := y_add (by omega) (by omega) (by decide) (by decide)
    exact ih (a + 1) _ (by omega) (by omega)
theorem y_dP {pS : Int32} {p p' : Nat → Int32} (hP : RP pS p p') (s32 : pS.toInt ≤ 32) : ∀ (n : Nat) (i : Int32) (acc : Int64), 0 ≤ i.toInt → fX5_digest_l90 pS p n i acc = fX6_digest_l139 pS p' n i acc := by
  intro n
  induction n with
  | zero => intro i acc i0; rw [fX5_digest_l90, fX6_digest_l139]
  | succ n ih =>
    intro i acc i0
    rw [fX5_digest_l90, fX6_digest_l139]
    by_cases q : pS ≤ i
    · rw [if_pos q, if_pos q]
    · rw [if_neg q, if_neg q]
      rw [Int32.le_iff_toInt_le] at q
      have ci := z_clampN i0
      have ei : (i + 1).toInt = i.toInt + 1 := y_add (by omega) (by omega) (by decide) (by decide)
      rw [(hP i.toNatClampNeg (by omega)).1]
      exact ih (i + 1) _ (by omega)
theorem y_dH {hc : Int32} {T T' : Nat → Int32} (hT : ∀ j : Nat, (j : Int) < hc.toInt → T j = T' j) (s32 : hc.toInt ≤ 12) : ∀ (n : Nat) (i : Int32) (acc : Int64), 0 ≤ i.toInt → fX5_shoreDigest_l52 hc T n i acc = fX6_digest_l45 hc T' n i acc := by
  intro n
  induction n with
  | zero => intro i acc i0; rw [fX5_shoreDigest_l52, fX6_digest_l45]
  | succ n ih =>
    intro i acc i0
    rw [fX5_shoreDigest_l52, fX6_digest_l45]
    by_cases q : hc ≤ i
    · rw [if_pos q, if_pos q]
    · rw [if_neg q, if_neg q]
      rw [Int32.le_iff_toInt_le] at q
      have ci := z_clampN i0
      have ei : (i + 1).toInt = i.toInt + 1 := y_add (by omega) (by omega) (by decide) (by decide)
      rw [hT i.toNatClampNeg (by omega)]
      exact ih (i + 1) _ (by omega)
theorem y_dN {pS hc st hr sR tC bD mC : Int32} {P V rows : Nat → Int32} (h : ∀ x, fX5_count sR bD pS hc st tC hr mC P V x = fX6_countOf pS hc st hr sR tC bD mC rows x) : ∀ (n : Nat) (i : Int32) (acc : Int64), fX5_digest_l126 sR bD pS hc st tC hr mC P V n i acc = fX6_digest_l166 pS hc st hr sR tC bD mC rows n i acc := by
  intro n
  induction n with
  | zero => intro i acc; rw [fX5_digest_l126, fX6_digest_l166]
  | succ n ih =>
    intro i acc
    rw [fX5_digest_l126, fX6_digest_l166]
    by_cases q : 10 ≤ i
    · rw [if_pos q, if_pos q]
    · rw [if_neg q, if_neg q, h]
      exact ih (i + 1) _
theorem s_digest (k : Nat) (x_page_letters : Nat → Int32) (x_page_size : Int32) (x_ground_levels : Nat → Int32) (x_ground_heights : Nat → Int32) (x_ground_heightCount : Int32) (x_ground_stairs : Int32) (x_now_kinds : Nat → Int32) (x_now_places : Nat → Int32) (x_now_worths : Nat → Int32) (x_now_thingCount : Int32) (x_now_barge : Int32) (x_now_hour : Int32) (x_now_markCount : Int32) (x_now_marks : Nat → Int32) (x_now_markHour : Int32) (x_kept_kinds : Nat → Int32) (x_kept_places : Nat → Int32) (x_kept_worths : Nat → Int32) (x_kept_thingCount : Int32) (x_kept_barge : Int32) (x_kept_hour : Int32) (x_kept_markCount : Int32) (x_kept_marks : Nat → Int32) (x_kept_markHour : Int32) (x_shoresRead : Int32) (x_bestsDone : Int32) (x_keptAtShore : Int32) (m_page : Nat → Int32) (m_pageMany : Int32) (m_heightMany : Int32) (m_stairs : Int32) (m_hourNow : Int32) (m_bargeAt : Int32) (m_shoresRead : Int32) (m_levels : Nat → Int32) (m_heights : Nat → Int32) (m_things : Int32) (m_rows : Nat → Int32) (m_done : Int32) (m_markHour : Int32) (m_markMany : Int32) (m_marks : Nat → Int32) (m_keptShore : Int32) (m_keptThings : Int32) (m_keptBarge : Int32) (m_keptHour : Int32) (m_keptMarkHour : Int32) (m_keptMarkMany : Int32) (m_keptRows : Nat → Int32) (m_keptMarks : Nat → Int32) (hk : k ≤ 64) (h : RR k x_page_letters x_page_size x_ground_levels x_ground_heights x_ground_heightCount x_ground_stairs x_now_kinds x_now_places x_now_worths x_now_thingCount x_now_barge x_now_hour x_now_markCount x_now_marks x_now_markHour x_kept_kinds x_kept_places x_kept_worths x_kept_thingCount x_kept_barge x_kept_hour x_kept_markCount x_kept_marks x_kept_markHour x_shoresRead x_bestsDone x_keptAtShore m_page m_pageMany m_heightMany m_stairs m_hourNow m_bargeAt m_shoresRead m_levels m_heights m_things m_rows m_done m_markHour m_markMany m_marks m_keptShore m_keptThings m_keptBarge m_keptHour m_keptMarkHour m_keptMarkMany m_keptRows m_keptMarks) : (fX5_digest x_shoresRead x_bestsDone x_page_size x_page_letters x_ground_heightCount x_ground_stairs x_ground_levels x_ground_heights x_now_thingCount x_now_barge x_now_hour x_now_markCount x_now_markHour x_now_kinds x_now_places x_now_worths x_now_marks) = (fX6_digest m_pageMany m_heightMany m_stairs m_hourNow m_bargeAt m_shoresRead m_things m_done m_markHour m_markMany m_page m_levels m_heights m_rows m_marks).1 ∧ RR (k + 1) x_page_letters x_page_size x_ground_levels x_ground_heights x_ground_heightCount x_ground_stairs x_now_kinds x_now_places x_now_worths x_now_thingCount x_now_barge x_now_hour x_now_markCount x_now_marks x_now_markHour x_kept_kinds x_kept_places x_kept_worths x_kept_thingCount x_kept_barge x_kept_hour x_kept_markCount x_kept_marks x_kept_markHour x_shoresRead x_bestsDone x_keptAtShore m_page m_pageMany m_heightMany m_stairs m_hourNow m_bargeAt m_shoresRead m_levels m_heights m_things m_rows m_done m_markHour m_markMany m_marks m_keptShore m_keptThings m_keptBarge m_keptHour m_keptMarkHour m_keptMarkMany m_keptRows m_keptMarks := by
  have hab : ∀ a b : Int32, fX5_about x_ground_stairs x_now_thingCount x_now_kinds x_now_places x_now_worths a b = fX6_about m_stairs m_things m_rows a b := fun a b => (s_about (x1 := a) (x2 := b) (hk := hk) (h := h)).1
  have hce : ∀ a b : Int32, fX5_cell x_shoresRead x_ground_heightCount x_ground_stairs x_ground_levels x_ground_heights x_now_thingCount x_now_barge x_now_hour x_now_places a b = fX6_cell m_heightMany m_stairs m_hourNow m_bargeAt m_things m_levels m_heights m_rows a b := fun a b => (s_cell (x1 := a) (x2 := b) (hk := hk) (h := h)).1
  have hne : fX5_newStair x_shoresRead x_ground_stairs x_now_thingCount x_now_places x_now_worths = fX6_newStair m_heightMany m_stairs m_things m_rows := (s_newStair (hk := hk) (h := h)).1
  have hfi : fX5_fits x_ground_heightCount x_ground_levels x_ground_heights x_now_barge x_now_markCount x_now_markHour x_now_marks = fX6_fits m_heightMany m_bargeAt m_markHour m_markMany m_levels m_heights m_marks := (s_fits (hk := hk) (h := h)).1
  obtain ⟨⟨e1, e2, e3, e4, e5, e6, e7, e8, e9, e10⟩, hB, hP, hG, hT, hM, hK, hW, hW2⟩ := h
  subst e1 e2 e3 e4 e5 e6 e7 e8 e9 e10
  obtain ⟨b1, b2, b3, b4, b5, b6, b7, b8, b9, b10, b11⟩ := id hB
  refine ⟨?_, ⟨rfl, rfl, rfl, rfl, rfl, rfl, rfl, rfl, rfl, rfl⟩, hB.up, hP, hG, hT, hM, hK.up, hW, hW2⟩
  have hcn := fun x => y_cnt (pS := x_page_size) (hc := x_ground_heightCount) (hr := x_now_hour) (sR := x_shoresRead) (bD := x_bestsDone) (mC := x_now_markCount) b3.1 b3.2 b4.1 b4.2 hT x
  have e0 : (0 : Int32).toInt = 0 := rfl
  have h40 : (4 : Int32) * 0 = 0 := by decide
  have key : ∀ y : Int64, fX5_digest_j17 x_shoresRead x_bestsDone x_page_size x_page_letters x_ground_heightCount x_ground_stairs x_ground_levels x_ground_heights x_now_thingCount x_now_barge x_now_hour x_now_markCount x_now_markHour x_now_kinds x_now_places x_now_worths x_now_marks y = (fX6_digest_j88 x_page_size x_ground_heightCount x_ground_stairs x_now_hour x_now_barge x_shoresRead x_now_thingCount x_bestsDone x_now_markHour x_now_markCount m_page m_levels m_heights m_rows m_marks y).1 := by
    intro y
    have hd := y_dT b4.1 b4.2 hab 8 0 y (by decide) (by decide)
    rw [h40] at hd
    have hd' : fX5_digest_l19 x_ground_stairs x_now_thingCount x_now_kinds x_now_places x_now_worths 9 0 y = fX6_digest_l90 x_ground_stairs x_now_thingCount m_rows 33 0 y := hd
    have tail : ∀ z : Int64, fX5_digest_j88 x_shoresRead x_bestsDone x_page_size x_page_letters x_ground_heightCount x_ground_stairs x_now_thingCount x_now_hour x_now_markCount x_now_places x_now_worths z = (fX6_digest_j137 x_page_size x_ground_heightCount x_ground_stairs x_now_hour x_shoresRead x_now_thingCount x_bestsDone x_now_markCount m_page m_rows z).1 := by
      intro z
      unfold fX5_digest_j88 fX5_digest_x90 fX5_digest_x126 fX6_digest_j137 fX6_digest_x139 fX6_digest_x166
      dsimp only
      rw [y_dP hP b1.2 33 0 z (by decide), y_dN hcn]
    unfold fX5_digest_j17 fX5_digest_x19 fX6_digest_j88 fX6_digest_x90
    rw [hd']
    by_cases q : x_now_markCount ≤ 0
    · rw [if_pos q, if_pos q]; exact tail _
    · rw [if_neg q, if_neg q]
      have qn : ¬ x_now_markCount = 0 := by intro e; rw [e] at q; exact q (by decide)
      have hf2 : fX5_fits x_ground_heightCount x_ground_levels x_ground_heights x_now_barge x_now_markCount x_now_markHour x_now_marks = fX6_fitsOf x_ground_heightCount x_now_barge x_now_markHour x_now_markCount m_levels m_heights m_marks := by
        rw [hfi]; unfold fX6_fits; rw [if_neg qn]
      unfold fX6_digest_c134 fX6_say
      rw [hf2]; exact tail _
  unfold fX5_digest fX6_digest
  rcases y_has b11 with ⟨a, c, _⟩ | ⟨a, c, s1, h2⟩
  · rw [if_pos a, if_neg (show ¬ fX6_lacks x_ground_heightCount = 0 by rw [c]; decide)]
    exact key 691
  · rw [if_neg (show ¬ fX5_hasShore x_shoresRead = 0 by rw [a]; decide), if_pos c, key]
    have hd := y_dC c hce 8 0 691 (by decide) (by decide)
    rw [h40] at hd
    have hd' : fX5_shoreDigest_l5 x_shoresRead x_ground_heightCount x_ground_stairs x_ground_levels x_ground_heights x_now_thingCount x_now_barge x_now_hour x_now_places 9 0 691 = fX6_digest_l16 x_ground_heightCount x_ground_stairs x_now_hour x_now_barge x_now_thingCount m_levels m_heights m_rows 33 0 691 := hd
    have hn2 : fX5_newStair x_shoresRead x_ground_stairs x_now_thingCount x_now_places x_now_worths = fX6_newStairOf x_ground_stairs x_now_thingCount m_rows := by
      rw [hne]; unfold fX6_newStair; rw [if_pos c]
    unfold fX5_shoreDigest fX5_shoreDigest_x5 fX5_shoreDigest_x52 fX6_digest_x16 fX6_digest_x45 fX6_digest_c76 fX6_digest_c85 fX6_say
    rw [hd', y_dH hG.2 b2.2 13 0 _ (by decide), hn2]
