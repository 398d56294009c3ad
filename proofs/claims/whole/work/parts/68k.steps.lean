def y_or (p : Nat → Int32) : Nat → Int32
  | 0 => 0
  | n + 1 => y_or p n ||| jshl 1 (p (9 + n) - 48)
def y_FI (p : Nat → Int32) (i hb st : Int32) (L H : Nat → Int32) (rs rm part : Int32) : Prop :=
  (∀ j : Nat, j < 8 → (j : Int) < i.toInt → L j = p j - 48 ∧ 0 ≤ (p j - 48).toInt ∧ (p j - 48).toInt ≤ 9) ∧ st = rs ∧ (0 ≤ rs.toInt ∧ rs.toInt ≤ 255) ∧
  ((part = 0 ∧ hb = -1 ∧ rs = 0 ∧ rm = i ∧ i.toInt ≤ 8) ∨
   (part = 1 ∧ hb = -1 ∧ 9 ≤ i.toInt ∧ rm.toInt = i.toInt - 9 ∧ fX4_stairCount rs = rm ∧ rs = y_or p rm.toNatClampNeg ∧ ∀ j : Nat, 9 ≤ j → (j : Int) < i.toInt → ¬ p j = 59) ∨
   (part = 2 ∧ 10 ≤ hb.toInt ∧ hb.toInt < i.toInt ∧ rm.toInt = i.toInt - hb.toInt - 1 ∧ rm.toInt ≤ 12 ∧ rs = y_or p (hb.toNatClampNeg - 9) ∧ (∀ j : Nat, 9 ≤ j → (j : Int) < hb.toInt → ¬ p j = 59) ∧ p hb.toNatClampNeg = 59 ∧ ∀ j : Nat, (j : Int) < rm.toInt → H j = p (hb.toNatClampNeg + 1 + j) - 48 ∧ 0 ≤ (p (hb.toNatClampNeg + 1 + j) - 48).toInt ∧ (p (hb.toNatClampNeg + 1 + j) - 48).toInt ≤ 9))
def y_cls (p : Nat → Int32) (K : Int32 → Int32 → Int32 → Int32) (i hb st : Int32) : Int32 := (if (8 : Int32) ≤ i then (if i = (8 : Int32) then (if (p i.toNatClampNeg) = (59 : Int32) then (fX2_faultPlace_j131l6 K i hb st (1 : Int32)) else (fX2_faultPlace_j131l6 K i hb st (0 : Int32))) else (if hb = (-1 : Int32) then (if (p i.toNatClampNeg) = (59 : Int32) then (if st = 0 then (fX2_faultPlace_j131l6 K i i st (0 : Int32)) else (fX2_faultPlace_j131l6 K i i st (1 : Int32))) else (fX2_faultPlace_j131l6 K i hb (st ||| (fX2_stairBit (p i.toNatClampNeg))) (fX2_isNewStair (p i.toNatClampNeg) st))) else (if (fX2_isDigit (p i.toNatClampNeg)) = 0 then (fX2_faultPlace_j131l6 K i hb st (0 : Int32)) else (if (12 : Int32) < (i - hb) then (fX2_faultPlace_j131l6 K i hb st (0 : Int32)) else (fX2_faultPlace_j131l6 K i hb st (1 : Int32)))))) else (fX2_faultPlace_j131l6 K i hb st (fX2_isDigit (p i.toNatClampNeg))))
theorem y_digit {v : Int32} (v0 : 0 ≤ v.toInt) (v1 : v.toInt ≤ 126) : ((v - 48).toInt = v.toInt - 48) ∧ ((fX2_isDigit v = 0 ∧ fX6_in (v - 48).toInt64 0 9 = 0 ∧ fX5_isCell (v - 48) = 0) ∨ (fX2_isDigit v = 1 ∧ fX6_in (v - 48).toInt64 0 9 = 1 ∧ 0 ≤ (v - 48).toInt ∧ (v - 48).toInt ≤ 9)) := by
  have e48 : (48 : Int32).toInt = 48 := rfl
  have e57 : (57 : Int32).toInt = 57 := rfl
  have e : (v - 48).toInt = v.toInt - 48 := by rw [Int32.toInt_sub, e48]; simp only [Int.bmod, Nat.reducePow]; omega
  refine ⟨e, ?_⟩
  unfold fX2_isDigit
  simp only [Int32.lt_iff_toInt_lt, e48, e57]
  rcases y_inz (v - 48) 0 9 with ⟨q, r⟩ | ⟨q, r0, r1⟩
  · have r' : (v - 48).toInt < 0 ∨ 9 < (v - 48).toInt := r
    left
    refine ⟨?_, q, y_cell0 (by omega)⟩
    by_cases c : v.toInt < 48
    · rw [if_pos c]
    · rw [if_neg c, if_pos (by omega)]
  · have r0' : 0 ≤ (v - 48).toInt := r0
    have r1' : (v - 48).toInt ≤ 9 := r1
    right
    refine ⟨?_, q, r0', r1'⟩
    rw [if_neg (by omega), if_neg (by omega)]
theorem y_go0 (rs rm part v : Int32) (L H : Nat → Int32) : fX6_go_j80 rs rm part L H v 0 = (0, L, H, rs, rm, part) := by
  unfold fX6_go_j80 fX6_go_j102 fX6_go_j126 fX6_go_j148
  simp only [if_pos (rfl : (0 : Int32) = 0), Int32.add_zero, if_true]
theorem y_goA (rs rm v : Int32) (L H : Nat → Int32) : fX6_go_j80 rs rm 0 L H v 1 = (1, upd L rm.toNatClampNeg (v - 48), H, rs, rm + 1, 0) := by
  unfold fX6_go_j80 fX6_go_j102 fX6_go_j126 fX6_go_j148
  simp only [if_neg (by decide : ¬ (1 : Int32) = 0), if_pos (rfl : (0 : Int32) = 0), if_neg (by decide : ¬ (0 : Int32) = 1), if_neg (by decide : ¬ (0 : Int32) = 2), if_true]
theorem y_goB (rs rm v : Int32) (L H : Nat → Int32) : fX6_go_j80 rs rm 1 L H v 1 = (1, L, H, rs ||| jshl 1 (v - 48), rm + 1, 1) := by
  unfold fX6_go_j80 fX6_go_j102 fX6_go_j126 fX6_go_j148
  simp only [if_neg (by decide : ¬ (1 : Int32) = 0), if_pos (rfl : (1 : Int32) = 1), if_neg (by decide : ¬ (1 : Int32) = 2), if_true]
theorem y_goC (rs rm v : Int32) (L H : Nat → Int32) : fX6_go_j80 rs rm 2 L H v 1 = (1, L, upd H rm.toNatClampNeg (v - 48), rs, rm + 1, 2) := by
  unfold fX6_go_j80 fX6_go_j102 fX6_go_j126 fX6_go_j148
  simp only [if_neg (by decide : ¬ (1 : Int32) = 0), if_pos (rfl : (2 : Int32) = 2), if_neg (by decide : ¬ (2 : Int32) = 1), if_neg (by decide : ¬ (2 : Int32) = 0), if_true]
theorem y_gobad {rs rm part v : Int32} (L H : Nat → Int32) (h : ¬ v = 59) (h2 : fX6_in (v - 48).toInt64 0 9 = 0) : fX6_go rs rm part L H v = (0, L, H, rs, rm, part) := by
  unfold fX6_go
  rw [if_neg h, if_pos h2, y_go0]
theorem y_next0 (rs rm : Int32) (h : ¬ rm = 8) : fX6_goNext rs rm 0 = (0, rm, 0) := by
  unfold fX6_goNext fX6_goNext_j16 fX6_goNext_j36 fX6_goNext_j51
  simp only [if_pos (rfl : (0 : Int32) = 0), if_neg h, if_neg (by decide : ¬ (0 : Int32) = 1), Int32.add_zero, if_true]
theorem y_next0b (rs : Int32) : fX6_goNext rs 8 0 = (1, 0, 1) := by
  unfold fX6_goNext fX6_goNext_j36 fX6_goNext_j51
  simp only [if_pos (rfl : (0 : Int32) = 0), if_pos (rfl : (8 : Int32) = 8), if_neg (by decide : ¬ (1 : Int32) = 0), if_true]
  rfl
theorem y_next1 (rs rm : Int32) (h : ¬ rs = 0) : fX6_goNext rs rm 1 = (1, 0, 2) := by
  unfold fX6_goNext fX6_goNext_j16 fX6_goNext_j36 fX6_goNext_j51
  simp only [if_neg (by decide : ¬ (1 : Int32) = 0), if_pos (rfl : (1 : Int32) = 1), if_neg h, if_true]
  rfl
theorem y_next1b (rm : Int32) : fX6_goNext 0 rm 1 = (0, rm, 1) := by
  unfold fX6_goNext fX6_goNext_j16 fX6_goNext_j36 fX6_goNext_j51
  simp only [if_neg (by decide : ¬ (1 : Int32) = 0), if_pos (rfl : (1 : Int32) = 1), if_pos (rfl : (0 : Int32) = 0), Int32.add_zero, if_true]
theorem y_next2 (rs rm : Int32) : fX6_goNext rs rm 2 = (0, rm, 2) := by
  unfold fX6_goNext fX6_goNext_j16 fX6_goNext_j36 fX6_goNext_j51
  simp only [if_neg (by decide : ¬ (2 : Int32) = 0), if_neg (by decide : ¬ (2 : Int32) = 1), if_pos (rfl : (0 : Int32) = 0), Int32.add_zero, if_true]
theorem y_gosep {rs rm part : Int32} (L H : Nat → Int32) : fX6_go rs rm part L H 59 = ((fX6_goNext rs rm part).1, L, H, rs, (fX6_goNext rs rm part).2.1, (fX6_goNext rs rm part).2.2) := by
  unfold fX6_go
  rw [if_pos rfl]
set_option maxRecDepth 100000 in
set_option maxHeartbeats 4000000 in
theorem y_bitf_all : ∀ c : Fin 8, ¬ jshl 1 (Int32.ofNat c.val) = 0 ∧ ∀ s : Fin 256, (jshr (Int32.ofNat s.val) (Int32.ofNat c.val) &&& 1 = 0 → Int32.ofNat s.val &&& jshl 1 (Int32.ofNat c.val) = 0 ∧ fX4_stairCount (Int32.ofNat s.val ||| jshl 1 (Int32.ofNat c.val)) = fX4_stairCount (Int32.ofNat s.val) + 1 ∧ fX4_stairCount (Int32.ofNat s.val) < 8 ∧ 0 ≤ Int32.ofNat s.val ||| jshl 1 (Int32.ofNat c.val) ∧ Int32.ofNat s.val ||| jshl 1 (Int32.ofNat c.val) ≤ 255) ∧ (jshr (Int32.ofNat s.val) (Int32.ofNat c.val) &&& 1 = 1 → ¬ Int32.ofNat s.val &&& jshl 1 (Int32.ofNat c.val) = 0) := by decide +kernel
theorem y_bitf {s c : Int32} (s0 : 0 ≤ s.toInt) (s1 : s.toInt ≤ 255) (c0 : 0 ≤ c.toInt) (c1 : c.toInt ≤ 7) : ¬ jshl 1 c = 0 ∧ (jshr s c &&& 1 = 0 → s &&& jshl 1 c = 0 ∧ fX4_stairCount (s ||| jshl 1 c) = fX4_stairCount s + 1 ∧ fX4_stairCount s < 8 ∧ 0 ≤ s ||| jshl 1 c ∧ s ||| jshl 1 c ≤ 255) ∧ (jshr s c &&& 1 = 1 → ¬ s &&& jshl 1 c = 0) := by
  have cs := z_clampN s0
  have cc := z_clampN c0
  have es : Int32.ofNat s.toNatClampNeg = s := Int32.toInt_inj.mp (by rw [Int32.toInt_ofNat_of_lt (by omega)]; omega)
  have ec : Int32.ofNat c.toNatClampNeg = c := Int32.toInt_inj.mp (by rw [Int32.toInt_ofNat_of_lt (by omega)]; omega)
  have h := y_bitf_all ⟨c.toNatClampNeg, by omega⟩
  simp only [ec] at h
  have h2 := h.2 ⟨s.toNatClampNeg, by omega⟩
  simp only [es] at h2
  exact ⟨h.1, h2⟩
theorem y_fstep {p : Nat → Int32} {i hb st rs rm part : Int32} {L H : Nat → Int32} (i0 : 0 ≤ i.toInt) (i1 : i.toInt ≤ 31) (v0 : 0 ≤ (p i.toNatClampNeg).toInt) (v1 : (p i.toNatClampNeg).toInt ≤ 126) (hI : y_FI p i hb st L H rs rm part) :
    ((fX6_go rs rm part L H (p i.toNatClampNeg)).1 = 0 ∧ ∀ K, y_cls p K i hb st = i) ∨
    ((fX6_go rs rm part L H (p i.toNatClampNeg)).1 = 1 ∧ ∃ hb' st' : Int32, (∀ K, y_cls p K i hb st = K (i + 1) hb' st') ∧ y_FI p (i + 1) hb' st' (fX6_go rs rm part L H (p i.toNatClampNeg)).2.1 (fX6_go rs rm part L H (p i.toNatClampNeg)).2.2.1 (fX6_go rs rm part L H (p i.toNatClampNeg)).2.2.2.1 (fX6_go rs rm part L H (p i.toNatClampNeg)).2.2.2.2.1 (fX6_go rs rm part L H (p i.toNatClampNeg)).2.2.2.2.2) := by
  obtain ⟨hL, rfl, ⟨s0, s1⟩, hc⟩ := hI
  have e0 : (0 : Int32).toInt = 0 := rfl
  have e1 : (1 : Int32).toInt = 1 := rfl
  have e8 : (8 : Int32).toInt = 8 := rfl
  have e12 : (12 : Int32).toInt = 12 := rfl
  have ei : (i + 1).toInt = i.toInt + 1 := y_add (by omega) (by omega) (by decide) (by decide)
  have ci := z_clampN i0
  obtain ⟨ev, hd⟩ := y_digit v0 v1
  have n1 : ¬ (1 : Int32) = 0 := by decide
  have dsep : p i.toNatClampNeg = 59 → fX2_isDigit (p i.toNatClampNeg) = 0 := by intro h; rw [h]; decide
  rcases hc with ⟨rfl, rfl, rfl, rfl, i8⟩ | ⟨rfl, rfl, i9, hm, hs, ho, hn⟩ | ⟨rfl, b10, bi, hm, m12, ho, hn, hb59, hH⟩
  · by_cases q8 : (8 : Int32) ≤ rm
    · have r8 : rm = 8 := by rw [Int32.le_iff_toInt_le, e8] at q8; rw [← Int32.toInt_inj, e8]; omega
      subst r8
      by_cases qs : p (8 : Int32).toNatClampNeg = 59
      · right
        rw [qs, y_gosep, y_next0b]
        refine ⟨rfl, -1, 0, ?_, ?_⟩
        · intro K
          unfold y_cls fX2_faultPlace_j131l6
          rw [if_pos q8, if_pos rfl, if_pos qs, if_neg n1]
        · refine ⟨fun j j8 _ => hL j j8 (by omega), rfl, (show (0 : Int) ≤ (0 : Int32).toInt ∧ (0 : Int32).toInt ≤ 255 from by decide), Or.inr (Or.inl ⟨rfl, rfl, by decide, (show (0 : Int32).toInt = (8 + 1 : Int32).toInt - 9 from by decide), (show fX4_stairCount 0 = 0 from by decide), rfl, ?_⟩)⟩
          intro j j9 jl
          rw [ei] at jl
          omega
      · left
        refine ⟨?_, ?_⟩
        · rcases hd with ⟨d1, d2, d3⟩ | ⟨d1, d2, d3, d4⟩
          · rw [y_gobad L H qs d2]
          · unfold fX6_go fX6_go_j47
            rw [if_neg qs, if_neg (by rw [d2]; decide), if_neg (by decide : ¬ (0 : Int32) = 2), if_pos q8, y_go0]
        · intro K
          unfold y_cls fX2_faultPlace_j131l6
          rw [if_pos q8, if_pos rfl, if_neg qs, if_pos rfl]
    · have q8' := q8
      rw [Int32.le_iff_toInt_le, e8] at q8'
      rcases hd with ⟨d1, d2, d3⟩ | ⟨d1, d2, d3, d4⟩
      · left
        refine ⟨?_, ?_⟩
        · by_cases qs : p rm.toNatClampNeg = 59
          · rw [qs, y_gosep, y_next0 0 rm (by intro h; rw [h] at q8; exact q8 (by decide))]
          · rw [y_gobad L H qs d2]
        · intro K
          unfold y_cls fX2_faultPlace_j131l6
          rw [if_neg q8, d1, if_pos rfl]
      · right
        have qs : ¬ p rm.toNatClampNeg = 59 := by intro h; rw [dsep h] at d1; exact absurd d1 (by decide)
        have g : fX6_go 0 rm 0 L H (p rm.toNatClampNeg) = (1, upd L rm.toNatClampNeg (p rm.toNatClampNeg - 48), H, 0, rm + 1, 0) := by
          unfold fX6_go fX6_go_j47
          rw [if_neg qs, if_neg (by rw [d2]; decide), if_neg (by decide : ¬ (0 : Int32) = 2), if_neg q8, if_neg (by decide : ¬ (0 : Int32) = 1), y_goA]
        rw [g]
        refine ⟨rfl, -1, 0, ?_, ?_⟩
        · intro K
          unfold y_cls fX2_faultPlace_j131l6
          rw [if_neg q8, d1, if_neg n1]
        · refine ⟨?_, rfl, (show (0 : Int) ≤ (0 : Int32).toInt ∧ (0 : Int32).toInt ≤ 255 from by decide), Or.inl ⟨rfl, rfl, rfl, rfl, by omega⟩⟩
          intro j j8 jl
          rw [ei] at jl
          show upd L rm.toNatClampNeg (p rm.toNatClampNeg - 48) j = _ ∧ _
          by_cases d : j = rm.toNatClampNeg
          · rw [d, pk_us]; exact ⟨rfl, d3, d4⟩
          · rw [pk_un d]; exact hL j j8 (by omega)
  · have q8 : (8 : Int32) ≤ i := by rw [Int32.le_iff_toInt_le, e8]; omega
    have qn : ¬ i = 8 := by intro h; rw [h, e8] at i9; omega
    have cm := z_clampN (x := rm) (by omega)
    by_cases qs : p i.toNatClampNeg = 59
    · by_cases qz : st = 0
      · left
        refine ⟨?_, ?_⟩
        · rw [qs, y_gosep, qz, y_next1b]
        · intro K
          unfold y_cls fX2_faultPlace_j131l6
          rw [if_pos q8, if_neg qn, if_pos rfl, if_pos qs, if_pos qz, if_pos rfl]
      · right
        rw [qs, y_gosep, y_next1 st rm qz]
        refine ⟨rfl, i, st, ?_, ?_⟩
        · intro K
          unfold y_cls fX2_faultPlace_j131l6
          rw [if_pos q8, if_neg qn, if_pos rfl, if_pos qs, if_neg qz, if_neg n1]
        · have m1 : 1 ≤ rm.toInt := by
            by_cases m : rm.toInt = 0
            · exfalso
              have : rm.toNatClampNeg = 0 := by omega
              rw [this] at ho
              exact qz ho
            · omega
          refine ⟨fun j j8 _ => hL j j8 (by omega), rfl, ⟨s0, s1⟩, Or.inr (Or.inr ⟨rfl, by omega, by omega, ?_, (show (0 : Int32).toInt ≤ 12 from by decide), ?_, hn, qs, ?_⟩)⟩
          · show (0 : Int32).toInt = _; omega
          · rw [show i.toNatClampNeg - 9 = rm.toNatClampNeg from by omega]; exact ho
          · intro j jl
            have jl' : (j : Int) < (0 : Int32).toInt := jl
            omega
    · have hn' : ∀ j : Nat, 9 ≤ j → (j : Int) < (i + 1).toInt → ¬ p j = 59 := by
        intro j j9 jl
        by_cases d : j = i.toNatClampNeg
        · rw [d]; exact qs
        · exact hn j j9 (by omega)
      have cbad : fX2_isNewStair (p i.toNatClampNeg) st = 0 → ∀ K, y_cls p K i (-1) st = i := by
        intro h K
        unfold y_cls fX2_faultPlace_j131l6
        rw [if_pos q8, if_neg qn, if_pos rfl, if_neg qs, h, if_pos rfl]
      rcases hd with ⟨d1, d2, d3⟩ | ⟨d1, d2, d3, d4⟩
      · left
        refine ⟨by rw [y_gobad L H qs d2], cbad ?_⟩
        unfold fX2_isNewStair fX2_stairBit
        rw [if_pos d3, if_pos rfl]
      · by_cases c7 : (p i.toNatClampNeg - 48).toInt ≤ 7
        · have hcell := y_cell1 d3 c7
          have hbit : fX2_stairBit (p i.toNatClampNeg) = jshl 1 (p i.toNatClampNeg - 48) := by
            unfold fX2_stairBit; rw [if_neg (by rw [hcell]; decide)]
          obtain ⟨f1, f2, f3⟩ := y_bitf s0 s1 d3 c7
          have qv : ¬ (8 : Int32) ≤ p i.toNatClampNeg - 48 := by rw [Int32.le_iff_toInt_le, e8]; omega
          rcases y_bit1 (jshr st (p i.toNatClampNeg - 48)) with hb0 | hb1
          · obtain ⟨g1, g2, g3, g4, g5⟩ := f2 hb0
            have qm : ¬ (8 : Int32) ≤ rm := by
              rw [hs, Int32.lt_iff_toInt_lt, e8] at g3
              rw [Int32.le_iff_toInt_le, e8]; omega
            right
            have g : fX6_go st rm 1 L H (p i.toNatClampNeg) = (1, L, H, st ||| jshl 1 (p i.toNatClampNeg - 48), rm + 1, 1) := by
              unfold fX6_go fX6_go_j47
              rw [if_neg qs, if_neg (by rw [d2]; decide), if_neg (by decide : ¬ (1 : Int32) = 2), if_neg qm, if_pos rfl, if_neg qv, if_pos hb0, y_goB]
            rw [g]
            have em : (rm + 1).toInt = rm.toInt + 1 := y_add (by omega) (by omega) (by decide) (by decide)
            have cm1 := z_clampN (x := rm + 1) (by omega)
            have hnew : fX2_isNewStair (p i.toNatClampNeg) st = 1 := by
              unfold fX2_isNewStair; rw [hbit, if_neg f1, if_pos g1]
            refine ⟨rfl, -1, st ||| jshl 1 (p i.toNatClampNeg - 48), ?_, ?_⟩
            · intro K
              unfold y_cls fX2_faultPlace_j131l6
              rw [if_pos q8, if_neg qn, if_pos rfl, if_neg qs, hnew, if_neg n1, hbit]
            · rw [Int32.le_iff_toInt_le] at g4 g5
              refine ⟨fun j j8 _ => hL j j8 (by omega), rfl, ⟨g4, g5⟩, Or.inr (Or.inl ⟨rfl, rfl, by omega, ?_, ?_, ?_, hn'⟩)⟩
              · show (rm + 1).toInt = _; omega
              · show fX4_stairCount (st ||| jshl 1 (p i.toNatClampNeg - 48)) = rm + 1
                rw [g2, hs]
              · show st ||| jshl 1 (p i.toNatClampNeg - 48) = y_or p (rm + 1).toNatClampNeg
                rw [show (rm + 1).toNatClampNeg = rm.toNatClampNeg + 1 from by omega, y_or, ← ho, show 9 + rm.toNatClampNeg = i.toNatClampNeg from by omega]
          · left
            refine ⟨?_, cbad ?_⟩
            · unfold fX6_go fX6_go_j47
              rw [if_neg qs, if_neg (by rw [d2]; decide), if_neg (by decide : ¬ (1 : Int32) = 2)]
              by_cases qm : (8 : Int32) ≤ rm
              · rw [if_pos qm, y_go0]
              · rw [if_neg qm, if_pos rfl, if_neg qv, if_neg (by rw [hb1]; decide), y_go0]
            · unfold fX2_isNewStair
              rw [hbit, if_neg f1, if_neg (f3 hb1)]
        · left
          have hcell : fX5_isCell (p i.toNatClampNeg - 48) = 0 := y_cell0 (by omega)
          have qv : (8 : Int32) ≤ p i.toNatClampNeg - 48 := by rw [Int32.le_iff_toInt_le, e8]; omega
          refine ⟨?_, cbad ?_⟩
          · unfold fX6_go fX6_go_j47
            rw [if_neg qs, if_neg (by rw [d2]; decide), if_neg (by decide : ¬ (1 : Int32) = 2)]
            by_cases qm : (8 : Int32) ≤ rm
            · rw [if_pos qm, y_go0]
            · rw [if_neg qm, if_pos rfl, if_pos qv, y_go0]
          · unfold fX2_isNewStair fX2_stairBit
            rw [if_pos hcell, if_pos rfl]
  · have q8 : (8 : Int32) ≤ i := by rw [Int32.le_iff_toInt_le, e8]; omega
    have qn : ¬ i = 8 := by intro h; rw [h, e8] at bi; omega
    have qh : ¬ hb = -1 := by intro h; rw [h] at b10; exact absurd b10 (by decide)
    have cm := z_clampN (x := rm) (by omega)
    have cb := z_clampN (x := hb) (by omega)
    have es : (i - hb).toInt = i.toInt - hb.toInt := by rw [Int32.toInt_sub]; simp only [Int.bmod, Nat.reducePow]; omega
    rcases hd with ⟨d1, d2, d3⟩ | ⟨d1, d2, d3, d4⟩
    · left
      refine ⟨?_, ?_⟩
      · by_cases qs : p i.toNatClampNeg = 59
        · rw [qs, y_gosep, y_next2]
        · rw [y_gobad L H qs d2]
      · intro K
        unfold y_cls fX2_faultPlace_j131l6
        rw [if_pos q8, if_neg qn, if_neg qh, if_pos d1, if_pos rfl]
    · have qs : ¬ p i.toNatClampNeg = 59 := by intro h; rw [dsep h] at d1; exact absurd d1 (by decide)
      by_cases q12 : (12 : Int32) ≤ rm
      · left
        refine ⟨?_, ?_⟩
        · unfold fX6_go fX6_go_j47
          rw [if_neg qs, if_neg (by rw [d2]; decide), if_pos rfl, if_pos q12, y_go0]
        · intro K
          rw [Int32.le_iff_toInt_le, e12] at q12
          unfold y_cls fX2_faultPlace_j131l6
          rw [if_pos q8, if_neg qn, if_neg qh, if_neg (by rw [d1]; decide), if_pos (by rw [Int32.lt_iff_toInt_lt, es, e12]; omega), if_pos rfl]
      · right
        have g : fX6_go st rm 2 L H (p i.toNatClampNeg) = (1, L, upd H rm.toNatClampNeg (p i.toNatClampNeg - 48), st, rm + 1, 2) := by
          unfold fX6_go fX6_go_j47
          rw [if_neg qs, if_neg (by rw [d2]; decide), if_pos rfl, if_neg q12, if_neg (by decide : ¬ (2 : Int32) = 1), y_goC]
        rw [g]
        rw [Int32.le_iff_toInt_le, e12] at q12
        have em : (rm + 1).toInt = rm.toInt + 1 := y_add (by omega) (by omega) (by decide) (by decide)
        refine ⟨rfl, hb, st, ?_, ?_⟩
        · intro K
          unfold y_cls fX2_faultPlace_j131l6
          rw [if_pos q8, if_neg qn, if_neg qh, if_neg (by rw [d1]; decide), if_neg (by rw [Int32.lt_iff_toInt_lt, es, e12]; omega), if_neg n1]
        · refine ⟨fun j j8 _ => hL j j8 (by omega), rfl, ⟨s0, s1⟩, Or.inr (Or.inr ⟨rfl, b10, by omega, ?_, ?_, ho, hn, hb59, ?_⟩)⟩
          · show (rm + 1).toInt = _; omega
          · show (rm + 1).toInt ≤ _; omega
          · intro j jl
            have jl' : (j : Int) < (rm + 1).toInt := jl
            show upd H rm.toNatClampNeg (p i.toNatClampNeg - 48) j = _ ∧ _
            by_cases d : j = rm.toNatClampNeg
            · rw [d, pk_us, show hb.toNatClampNeg + 1 + rm.toNatClampNeg = i.toNatClampNeg from by omega]; exact ⟨rfl, d3, d4⟩
            · rw [pk_un d]; exact hH j (by omega)
theorem y_fault {pS : Int32} {p p' : Nat → Int32} (hP : RP pS p p') (s32 : pS.toInt ≤ 32) : ∀ (n : Nat) (i hb st : Int32) (L H : Nat → Int32) (rs rm part : Int32), 0 ≤ i.toInt → i.toInt ≤ pS.toInt → pS.toInt - i.toInt < n → y_FI p i hb st L H rs rm part →
    fX2_faultPlace_l6 pS p n i hb st = (fX6_faultOf_l17 pS p' n i L H rs rm part).1 ∧ ((fX6_faultOf_l17 pS p' n i L H rs rm part).1.toInt < pS.toInt ∨ ((fX6_faultOf_l17 pS p' n i L H rs rm part).1 = pS ∧ ∃ hb' st' : Int32, y_FI p pS hb' st' (fX6_faultOf_l17 pS p' n i L H rs rm part).2.1 (fX6_faultOf_l17 pS p' n i L H rs rm part).2.2.1 (fX6_faultOf_l17 pS p' n i L H rs rm part).2.2.2.1 (fX6_faultOf_l17 pS p' n i L H rs rm part).2.2.2.2.1 (fX6_faultOf_l17 pS p' n i L H rs rm part).2.2.2.2.2)) := by
  intro n
  induction n with
  | zero => intro i hb st L H rs rm part i0 i1 hf; exfalso; omega
  | succ n ih =>
    intro i hb st L H rs rm part i0 i1 hf hI
    have ec : fX2_faultPlace_l6 pS p (n + 1) i hb st = if pS ≤ i then pS else y_cls p (fun a b c => fX2_faultPlace_l6 pS p n a b c) i hb st := rfl
    rw [ec, fX6_faultOf_l17]
    by_cases q : pS ≤ i
    · rw [if_pos q, if_pos q]
      rw [Int32.le_iff_toInt_le] at q
      have e : i = pS := by rw [← Int32.toInt_inj]; omega
      subst e
      exact ⟨rfl, Or.inr ⟨rfl, hb, st, hI⟩⟩
    · rw [if_neg q, if_neg q]
      rw [Int32.le_iff_toInt_le] at q
      have ci := z_clampN i0
      have ei : (i + 1).toInt = i.toInt + 1 := y_add (by omega) (by omega) (by decide) (by decide)
      obtain ⟨v, v0, v1⟩ := hP i.toNatClampNeg (by omega)
      rw [← v]
      unfold fX6_faultOf_c32l17
      dsimp only
      rcases y_fstep i0 (by omega) (by omega) v1 hI with ⟨g, hk⟩ | ⟨g, hb', st', hk, hI'⟩
      · rw [if_pos g, hk]
        exact ⟨rfl, Or.inl (by show i.toInt < _; omega)⟩
      · rw [if_neg (by rw [g]; decide), hk]
        exact ih (i + 1) hb' st' _ _ _ _ _ (by omega) (by omega) (by omega) hI'
theorem y_faultz {pS : Int32} {p p' : Nat → Int32} (hP : RP pS p p') (s0 : 0 ≤ pS.toInt) (s32 : pS.toInt ≤ 32) (L H : Nat → Int32) : fX2_faultPlace pS p = (fX6_faultOf pS p' L H).1 ∧ ((fX6_faultOf pS p' L H).1.toInt < pS.toInt ∨ ((fX6_faultOf pS p' L H).1 = pS ∧ ∃ hb' st' : Int32, y_FI p pS hb' st' (fX6_faultOf pS p' L H).2.1 (fX6_faultOf pS p' L H).2.2.1 (fX6_faultOf pS p' L H).2.2.2.1 (fX6_faultOf pS p' L H).2.2.2.2.1 (fX6_faultOf pS p' L H).2.2.2.2.2)) := by
  have e0 : (0 : Int32).toInt = 0 := rfl
  exact y_fault hP s32 33 0 (-1) 0 L H 0 0 0 (by decide) s0 (by omega) ⟨fun j _ jl => by exfalso; omega, rfl, by decide, Or.inl ⟨rfl, rfl, rfl, rfl, by decide⟩⟩
theorem s_fault (k : Nat) (x_page_letters : Nat → Int32) (x_page_size : Int32) (x_ground_levels : Nat → Int32) (x_ground_heights : Nat → Int32) (x_ground_heightCount : Int32) (x_ground_stairs : Int32) (x_now_kinds : Nat → Int32) (x_now_places : Nat → Int32) (x_now_worths : Nat → Int32) (x_now_thingCount : Int32) (x_now_barge : Int32) (x_now_hour : Int32) (x_now_markCount : Int32) (x_now_marks : Nat → Int32) (x_now_markHour : Int32) (x_kept_kinds : Nat → Int32) (x_kept_places : Nat → Int32) (x_kept_worths : Nat → Int32) (x_kept_thingCount : Int32) (x_kept_barge : Int32) (x_kept_hour : Int32) (x_kept_markCount : Int32) (x_kept_marks : Nat → Int32) (x_kept_markHour : Int32) (x_shoresRead : Int32) (x_bestsDone : Int32) (x_keptAtShore : Int32) (m_page : Nat → Int32) (m_pageMany : Int32) (m_heightMany : Int32) (m_stairs : Int32) (m_hourNow : Int32) (m_bargeAt : Int32) (m_shoresRead : Int32) (m_levels : Nat → Int32) (m_heights : Nat → Int32) (m_things : Int32) (m_rows : Nat → Int32) (m_done : Int32) (m_markHour : Int32) (m_markMany : Int32) (m_marks : Nat → Int32) (m_keptShore : Int32) (m_keptThings : Int32) (m_keptBarge : Int32) (m_keptHour : Int32) (m_keptMarkHour : Int32) (m_keptMarkMany : Int32) (m_keptRows : Nat → Int32) (m_keptMarks : Nat → Int32) (m_readLevels : Nat → Int32) (m_readHeights : Nat → Int32) (hk : k ≤ 64) (h : RR k x_page_letters x_page_size x_ground_levels x_ground_heights x_ground_heightCount x_ground_stairs x_now_kinds x_now_places x_now_worths x_now_thingCount x_now_barge x_now_hour x_now_markCount x_now_marks x_now_markHour x_kept_kinds x_kept_places x_kept_worths x_kept_thingCount x_kept_barge x_kept_hour x_kept_markCount x_kept_marks x_kept_markHour x_shoresRead x_bestsDone x_keptAtShore m_page m_pageMany m_heightMany m_stairs m_hourNow m_bargeAt m_shoresRead m_levels m_heights m_things m_rows m_done m_markHour m_markMany m_marks m_keptShore m_keptThings m_keptBarge m_keptHour m_keptMarkHour m_keptMarkMany m_keptRows m_keptMarks) : (fX5_fault x_page_size x_page_letters) = (fX6_fault m_pageMany m_page m_readLevels m_readHeights).1 ∧ RR (k + 1) x_page_letters x_page_size x_ground_levels x_ground_heights x_ground_heightCount x_ground_stairs x_now_kinds x_now_places x_now_worths x_now_thingCount x_now_barge x_now_hour x_now_markCount x_now_marks x_now_markHour x_kept_kinds x_kept_places x_kept_worths x_kept_thingCount x_kept_barge x_kept_hour x_kept_markCount x_kept_marks x_kept_markHour x_shoresRead x_bestsDone x_keptAtShore m_page m_pageMany m_heightMany m_stairs m_hourNow m_bargeAt m_shoresRead m_levels m_heights m_things m_rows m_done m_markHour m_markMany m_marks m_keptShore m_keptThings m_keptBarge m_keptHour m_keptMarkHour m_keptMarkMany m_keptRows m_keptMarks := by
  obtain ⟨⟨e1, e2, e3, e4, e5, e6, e7, e8, e9, e10⟩, hB, hP, hG, hT, hM, hK, hW, hW2⟩ := h
  subst e1 e2 e3 e4 e5 e6 e7 e8 e9 e10
  obtain ⟨b1, b2, b3, b4, b5, b6, b7, b8, b9, b10, b11⟩ := id hB
  refine ⟨?_, ⟨rfl, rfl, rfl, rfl, rfl, rfl, rfl, rfl, rfl, rfl⟩, hB.up, hP, hG, hT, hM, hK.up, hW, hW2⟩
  exact (y_faultz hP b1.1 b1.2 m_readLevels m_readHeights).1
