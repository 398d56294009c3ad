theorem z_mask255 (v : Int64) : 0 ≤ ((v &&& 255).toInt32).toInt ∧ ((v &&& 255).toInt32).toInt ≤ 255 := by
  have h : (v &&& 255).toInt32.toInt = (v &&& 255).toInt.bmod (2 ^ 32) := Int64.toInt_toInt32 _
  have b : (v &&& 255).toBitVec.toNat ≤ 255 := by
    rw [Int64.toBitVec_and, BitVec.toNat_and]; exact Nat.and_le_right
  have e : (v &&& 255).toInt = ((v &&& 255).toBitVec.toNat : Int) := by
    show (v &&& 255).toBitVec.toInt = _
    rw [BitVec.toInt_eq_toNat_of_lt (by omega)]
  rw [h, e]
  simp only [Int.bmod, Nat.reducePow]
  omega
theorem y_shr1 (x a b c : UInt64) (h : a.toNat % 64 + b.toNat % 64 = c.toNat % 64) : x >>> a >>> b = x >>> c := by
  apply UInt64.toNat_inj.mp
  rw [UInt64.toNat_shiftRight, UInt64.toNat_shiftRight, UInt64.toNat_shiftRight, ← Nat.shiftRight_add, h]
theorem y_shr (w : Int64) {k : Int32} (k0 : 0 ≤ k.toInt) (k1 : k.toInt ≤ 6) : jlushr (jlushr w (8 * k)) 8 = jlushr w (8 * (k + 1)) := by
  have e : k = 0 ∨ k = 1 ∨ k = 2 ∨ k = 3 ∨ k = 4 ∨ k = 5 ∨ k = 6 := by
    simp only [← Int32.toInt_inj, Int32.reduceToInt]; omega
  rcases e with rfl | rfl | rfl | rfl | rfl | rfl | rfl <;> exact congrArg UInt64.toInt64 (y_shr1 w.toUInt64 _ _ _ (by decide))
theorem y_shr0 (w : Int64) : jlushr w (8 * 0) = w := by
  have h : w.toUInt64 >>> ((8 * 0 : Int32).toInt64.toUInt64 &&& Int64.toUInt64 63) = w.toUInt64 := by
    apply UInt64.toNat_inj.mp
    rw [UInt64.toNat_shiftRight]
    exact Nat.shiftRight_zero
  exact congrArg UInt64.toInt64 h
theorem y_chr_all : ∀ b : Fin 256, vp_nar .char (ji2c (Int32.ofNat b.val)) = Int32.ofNat b.val := by decide +kernel
theorem y_chr {b : Int32} (b0 : 0 ≤ b.toInt) (b1 : b.toInt ≤ 255) : vp_nar .char (ji2c b) = b := by
  have cs := z_clampN b0
  have es : Int32.ofNat b.toNatClampNeg = b := Int32.toInt_inj.mp (by rw [Int32.toInt_ofNat_of_lt (by omega)]; omega)
  have h := y_chr_all ⟨b.toNatClampNeg, by omega⟩
  simp only [es] at h
  exact h
theorem y_let0 : ∀ (n : Nat) (k : Int32) (left : Int64) (many : Int32), (fX6_letters_l11 n k left 0 many).1 = 0 := by
  intro n
  induction n with
  | zero => intro k left many; rw [fX6_letters_l11]
  | succ n ih =>
    intro k left many
    rw [fX6_letters_l11]
    by_cases q : 8 ≤ k
    · rw [if_pos q]
    · rw [if_neg q, if_pos rfl]
      unfold fX6_letters_j62l11
      dsimp only
      split
      · exact ih _ _ _
      · exact ih _ _ _
theorem y_lets (w : Int64) : ∀ (n : Nat) (k : Int32) (left : Int64) (e t : Int32), 0 ≤ k.toInt → k.toInt ≤ 8 → 8 - k.toInt < n → (k.toInt ≤ 7 → left = jlushr w (8 * k)) → ((e = 0 ∧ t = k) ∨ (e = 1 ∧ 0 ≤ t.toInt ∧ t.toInt < k.toInt)) →
    (fX2_lettersIn_l7 w n k e t = -1 ∧ (fX6_letters_l11 n k left 1 t).1 = 0) ∨ ((fX6_letters_l11 n k left 1 t).2 = fX2_lettersIn_l7 w n k e t ∧ (fX6_letters_l11 n k left 1 t).1 = 1 ∧ t.toInt ≤ (fX2_lettersIn_l7 w n k e t).toInt ∧ (fX2_lettersIn_l7 w n k e t).toInt ≤ 8 ∧ (e = 1 → fX2_lettersIn_l7 w n k e t = t) ∧ ∀ j : Int32, k.toInt ≤ j.toInt → j.toInt < (fX2_lettersIn_l7 w n k e t).toInt → 1 ≤ (fX2_letterOf w j).toInt ∧ (fX2_letterOf w j).toInt ≤ 126) := by
  intro n
  induction n with
  | zero => intro k left e t k0 k8 hf; exfalso; omega
  | succ n ih =>
    intro k left e t k0 k8 hf hl ht
    rw [fX2_lettersIn_l7, fX6_letters_l11]
    have e0 : (0 : Int32).toInt = 0 := rfl
    have e1 : (1 : Int32).toInt = 1 := rfl
    have e8 : (8 : Int32).toInt = 8 := rfl
    have e126 : (126 : Int32).toInt = 126 := rfl
    by_cases q : 8 ≤ k
    · rw [if_pos q, if_pos q]
      rw [Int32.le_iff_toInt_le] at q
      right
      refine ⟨rfl, rfl, by omega, ?_, fun _ => rfl, ?_⟩
      · rcases ht with ⟨_, rfl⟩ | ⟨_, _, _⟩ <;> omega
      · intro j j0 j1
        exfalso
        rcases ht with ⟨_, rfl⟩ | ⟨_, _, _⟩ <;> omega
    · rw [if_neg q, if_neg q, if_neg (by decide : ¬ (1 : Int32) = 0)]
      rw [Int32.le_iff_toInt_le] at q
      have hl' := hl (by omega)
      have eb : (left &&& 255).toInt32 = fX2_letterOf w k := by rw [hl']; rfl
      have ei : (k + 1).toInt = k.toInt + 1 := y_add (by omega) (by omega) (by decide) (by decide)
      have bb : 0 ≤ (fX2_letterOf w k).toInt ∧ (fX2_letterOf w k).toInt ≤ 255 := z_mask255 _
      have hl2 : (k + 1).toInt ≤ 7 → jlushr left 8 = jlushr w (8 * (k + 1)) := by
        intro h; rw [hl']; exact y_shr w k0 (by omega)
      rw [eb]
      unfold fX6_letters_j62l11 fX2_lettersIn_j40l7
      dsimp only
      rw [eb]
      by_cases c1 : (126 : Int32) < fX2_letterOf w k
      · rw [if_pos c1, if_pos c1]
        left
        refine ⟨rfl, ?_⟩
        split
        · exact y_let0 _ _ _ _
        · exact y_let0 _ _ _ _
      · rw [if_neg c1, if_neg c1]
        rw [Int32.lt_iff_toInt_lt, e126] at c1
        by_cases c2 : fX2_letterOf w k = 0
        · have c3 : fX2_letterOf w k ≤ 0 := by rw [c2]; decide
          rw [if_pos c2, if_pos c2, if_pos c2, if_pos c3, Int32.add_zero, ite_self]
          have ht2 : ((1 : Int32) = 0 ∧ t = k + 1) ∨ ((1 : Int32) = 1 ∧ 0 ≤ t.toInt ∧ t.toInt < (k + 1).toInt) := by
            right; refine ⟨rfl, ?_, ?_⟩ <;> rcases ht with ⟨_, rfl⟩ | ⟨_, _, _⟩ <;> omega
          rcases ih (k + 1) (jlushr left 8) 1 t (by omega) (by omega) (by omega) hl2 ht2 with h | ⟨h1, h2, h3, h4, h5, h6⟩
          · exact Or.inl h
          · right
            refine ⟨h1, h2, h3, h4, fun _ => h5 rfl, ?_⟩
            intro j j0 j1
            rw [h5 rfl] at j1
            exfalso
            rcases ht with ⟨_, rfl⟩ | ⟨_, _, _⟩ <;> omega
        · have c3 : ¬ fX2_letterOf w k ≤ 0 := by
            rw [Int32.le_iff_toInt_le]; rw [← Int32.toInt_inj] at c2; omega
          have c4 : 1 ≤ (fX2_letterOf w k).toInt := by rw [← Int32.toInt_inj] at c2; omega
          rw [if_neg c2, if_neg c2, if_neg c2, if_neg c3, if_neg c3]
          rcases ht with ⟨rfl, rfl⟩ | ⟨rfl, t0, t1⟩
          · rw [if_pos rfl, if_pos rfl]
            rcases ih (t + 1) (jlushr left 8) 0 (t + 1) (by omega) (by omega) (by omega) hl2 (Or.inl ⟨rfl, rfl⟩) with h | ⟨h1, h2, h3, h4, h5, h6⟩
            · exact Or.inl h
            · right
              refine ⟨h1, h2, by omega, h4, fun h => absurd h (by decide), ?_⟩
              intro j j0 j1
              by_cases d : j = t
              · rw [d]; exact ⟨c4, by omega⟩
              · rw [← Int32.toInt_inj] at d
                exact h6 j (by omega) j1
          · rw [if_neg (by decide : ¬ (1 : Int32) = 0), if_neg (by intro h; rw [h] at t1; omega)]
            left
            exact ⟨rfl, y_let0 _ _ _ _⟩
theorem y_letsz (w : Int64) : (fX2_lettersIn w = -1 ∧ (fX6_letters_l11 9 0 w 1 0).1 = 0) ∨ ∃ c : Int32, fX2_lettersIn w = c ∧ (fX6_letters_l11 9 0 w 1 0).1 = 1 ∧ (fX6_letters_l11 9 0 w 1 0).2 = c ∧ 0 ≤ c.toInt ∧ c.toInt ≤ 8 ∧ ∀ j : Int32, 0 ≤ j.toInt → j.toInt < c.toInt → 1 ≤ (fX2_letterOf w j).toInt ∧ (fX2_letterOf w j).toInt ≤ 126 := by
  rcases y_lets w 9 0 w 0 0 (by decide) (by decide) (by decide) (fun _ => (y_shr0 w).symm) (Or.inl ⟨rfl, rfl⟩) with h | ⟨h1, h2, h3, h4, h5, h6⟩
  · exact Or.inl h
  · exact Or.inr ⟨_, rfl, h2, h1, h3, h4, h6⟩
theorem RP.push {n c : Int32} {M N : Nat → Int32} (h : RP n M N) (n0 : 0 ≤ n.toInt) (n1 : n.toInt ≤ 32) (h0 : 1 ≤ c.toInt) (h1 : c.toInt ≤ 126) : RP (n + 1) (upd M n.toNatClampNeg c) (upd N n.toNatClampNeg c) := by
  intro j hj
  have e : (n + 1).toInt = n.toInt + 1 := y_add (by omega) (by omega) (by decide) (by decide)
  have k := z_clampN n0
  unfold upd
  by_cases q : j = n.toNatClampNeg
  · rw [if_pos q, if_pos q]; exact ⟨rfl, h0, h1⟩
  · rw [if_neg q, if_neg q]; exact h j (by omega)
theorem y_app {w : Int64} {c : Int32} (c8 : c.toInt ≤ 8) (hl : ∀ j : Int32, 0 ≤ j.toInt → j.toInt < c.toInt → 1 ≤ (fX2_letterOf w j).toInt ∧ (fX2_letterOf w j).toInt ≤ 126) : ∀ (n : Nat) (i s : Int32) (P P' : Nat → Int32), 0 ≤ i.toInt → i.toInt ≤ c.toInt → c.toInt - i.toInt < n → 0 ≤ s.toInt → s.toInt + (c.toInt - i.toInt) ≤ 32 → RP s P P' → (fX2_append_l3 w c n i P s).2 = (fX6_letters_l108 w c n i P' s).2 ∧ (fX6_letters_l108 w c n i P' s).2.toInt = s.toInt + (c.toInt - i.toInt) ∧ RP (fX6_letters_l108 w c n i P' s).2 (fX2_append_l3 w c n i P s).1 (fX6_letters_l108 w c n i P' s).1 := by
  intro n
  induction n with
  | zero => intro i s P P' i0 i1 hf; exfalso; omega
  | succ n ih =>
    intro i s P P' i0 i1 hf s0 s1 hP
    rw [fX2_append_l3, fX6_letters_l108]
    by_cases q : c ≤ i
    · rw [if_pos q, if_pos q]
      rw [Int32.le_iff_toInt_le] at q
      exact ⟨rfl, by show s.toInt = _; omega, hP⟩
    · rw [if_neg q, if_neg q]
      rw [Int32.le_iff_toInt_le] at q
      have e32 : (32 : Int32).toInt = 32 := rfl
      have q2 : ¬ (32 : Int32) ≤ s := by rw [Int32.le_iff_toInt_le, e32]; omega
      rw [if_neg q2]
      have ei : (i + 1).toInt = i.toInt + 1 := y_add (by omega) (by omega) (by decide) (by decide)
      have es : (s + 1).toInt = s.toInt + 1 := y_add (by omega) (by omega) (by decide) (by decide)
      obtain ⟨l0, l1⟩ := hl i i0 (by omega)
      rw [y_chr (by omega) (by omega)]
      have h := ih (i + 1) (s + 1) (upd P s.toNatClampNeg (fX2_letterOf w i)) (upd P' s.toNatClampNeg (fX2_letterOf w i)) (by omega) (by omega) (by omega) (by omega) (by omega) (hP.push s0 (by omega) l0 l1)
      refine ⟨h.1, ?_, h.2.2⟩
      have h2 := h.2.1
      rw [es, ei] at h2
      rw [show s.toInt + (c.toInt - i.toInt) = s.toInt + 1 + (c.toInt - (i.toInt + 1)) from by omega]
      exact h2
theorem s_letters (k : Nat) (x_page_letters : Nat → Int32) (x_page_size : Int32) (x_ground_levels : Nat → Int32) (x_ground_heights : Nat → Int32) (x_ground_heightCount : Int32) (x_ground_stairs : Int32) (x_now_kinds : Nat → Int32) (x_now_places : Nat → Int32) (x_now_worths : Nat → Int32) (x_now_thingCount : Int32) (x_now_barge : Int32) (x_now_hour : Int32) (x_now_markCount : Int32) (x_now_marks : Nat → Int32) (x_now_markHour : Int32) (x_kept_kinds : Nat → Int32) (x_kept_places : Nat → Int32) (x_kept_worths : Nat → Int32) (x_kept_thingCount : Int32) (x_kept_barge : Int32) (x_kept_hour : Int32) (x_kept_markCount : Int32) (x_kept_marks : Nat → Int32) (x_kept_markHour : Int32) (x_shoresRead : Int32) (x_bestsDone : Int32) (x_keptAtShore : Int32) (m_page : Nat → Int32) (m_pageMany : Int32) (m_heightMany : Int32) (m_stairs : Int32) (m_hourNow : Int32) (m_bargeAt : Int32) (m_shoresRead : Int32) (m_levels : Nat → Int32) (m_heights : Nat → Int32) (m_things : Int32) (m_rows : Nat → Int32) (m_done : Int32) (m_markHour : Int32) (m_markMany : Int32) (m_marks : Nat → Int32) (m_keptShore : Int32) (m_keptThings : Int32) (m_keptBarge : Int32) (m_keptHour : Int32) (m_keptMarkHour : Int32) (m_keptMarkMany : Int32) (m_keptRows : Nat → Int32) (m_keptMarks : Nat → Int32) (x1 : Int64) (hk : k ≤ 64) (h : RR k x_page_letters x_page_size x_ground_levels x_ground_heights x_ground_heightCount x_ground_stairs x_now_kinds x_now_places x_now_worths x_now_thingCount x_now_barge x_now_hour x_now_markCount x_now_marks x_now_markHour x_kept_kinds x_kept_places x_kept_worths x_kept_thingCount x_kept_barge x_kept_hour x_kept_markCount x_kept_marks x_kept_markHour x_shoresRead x_bestsDone x_keptAtShore m_page m_pageMany m_heightMany m_stairs m_hourNow m_bargeAt m_shoresRead m_levels m_heights m_things m_rows m_done m_markHour m_markMany m_marks m_keptShore m_keptThings m_keptBarge m_keptHour m_keptMarkHour m_keptMarkMany m_keptRows m_keptMarks) : (fX5_letters x_page_size x_page_letters x1).1 = (fX6_letters m_pageMany m_page x1).1 ∧ RR (k + 1) ((fX5_letters x_page_size x_page_letters x1).2.1) ((fX5_letters x_page_size x_page_letters x1).2.2) x_ground_levels x_ground_heights x_ground_heightCount x_ground_stairs x_now_kinds x_now_places x_now_worths x_now_thingCount x_now_barge x_now_hour x_now_markCount x_now_marks x_now_markHour x_kept_kinds x_kept_places x_kept_worths x_kept_thingCount x_kept_barge x_kept_hour x_kept_markCount x_kept_marks x_kept_markHour x_shoresRead x_bestsDone x_keptAtShore ((fX6_letters m_pageMany m_page x1).2.1) ((fX6_letters m_pageMany m_page x1).2.2) m_heightMany m_stairs m_hourNow m_bargeAt m_shoresRead m_levels m_heights m_things m_rows m_done m_markHour m_markMany m_marks m_keptShore m_keptThings m_keptBarge m_keptHour m_keptMarkHour m_keptMarkMany m_keptRows m_keptMarks := by
  obtain ⟨⟨e1, e2, e3, e4, e5, e6, e7, e8, e9, e10⟩, hB, hP, hG, hT, hM, hK, hW, hW2⟩ := h
  subst e1 e2 e3 e4 e5 e6 e7 e8 e9 e10
  obtain ⟨b1, b2, b3, b4, b5, b6, b7, b8, b9, b10, b11⟩ := id hB
  unfold fX5_letters fX6_letters fX6_letters_x11
  rcases y_letsz x1 with ⟨a, b⟩ | ⟨c, a, b, b', c0, c8, hl⟩
  · simp only [if_pos a, if_pos b]
    exact ⟨by first | rfl | trivial, ⟨rfl, rfl, rfl, rfl, rfl, rfl, rfl, rfl, rfl, rfl⟩, hB.up, hP, hG, hT, hM, hK.up, hW, hW2⟩
  · have n1 : ¬ c = -1 := by intro e; rw [e] at c0; exact absurd c0 (by decide)
    have n2 : ¬ (1 : Int32) = 0 := by decide
    by_cases q : x_page_size + c ≤ 32
    · simp only [a, b, b', if_neg n1, if_neg n2, if_pos q, fX5_letters_c36, fX2_append, fX2_append_x3, fX6_letters_x108]
      have q' := q
      rw [Int32.le_iff_toInt_le, y_add (by omega) (by omega) (by omega) (by omega)] at q'
      have e32 : (32 : Int32).toInt = 32 := rfl
      have e0 : (0 : Int32).toInt = 0 := rfl
      obtain ⟨p1, p2, p3⟩ := y_app c8 hl 9 0 x_page_size x_page_letters m_page (by decide) c0 (by omega) b1.1 (by omega) hP
      rw [← p1] at p2 p3
      refine ⟨p1, ⟨p1, rfl, rfl, rfl, rfl, rfl, rfl, rfl, rfl, rfl⟩, ?_, p3, hG, hT, hM, hK.up, hW, hW2⟩
      obtain ⟨u1, u2⟩ := hB.up
      exact ⟨⟨by omega, by omega⟩, u2⟩
    · simp only [a, b, b', if_neg n1, if_neg n2, if_neg q]
      exact ⟨by first | rfl | trivial, ⟨rfl, rfl, rfl, rfl, rfl, rfl, rfl, rfl, rfl, rfl⟩, hB.up, hP, hG, hT, hM, hK.up, hW, hW2⟩
