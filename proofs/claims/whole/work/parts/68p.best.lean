def y_pl (hc bg hr : Int32) (L T rows : Nat → Int32) : Nat → Nat → Int32
  | 0, t => rows (4 * t + 1)
  | k + 1, t => fX6_drifts hc bg L T (rows (4 * t)) (y_pl hc bg hr L T rows k t) (hr + Int32.ofNat k)
theorem y_nb {b : Int32} (h : b = 0 ∨ b = 1) : vp_nar .boolean b = b := by rcases h with rfl | rfl <;> decide
theorem y_ofS {n : Nat} (h : n ≤ 1000) : (Int32.ofNat n).toInt = n := Int32.toInt_ofNat_of_lt (by omega)
theorem y_look3 {hc bg hr row : Int32} {L T : Nat → Int32} {kk : Nat} (hrow : row.toInt = 8 * kk) (k7 : kk ≤ 7) : ∀ (n : Nat) (i : Int32) (ly dr : Nat → Int32), 0 ≤ i.toInt → i.toInt ≤ 8 → 8 - i.toInt < n → ∀ j : Nat,
    (fX0_look_l3 bg hr hc L T row n i ly dr).1 j = (if 8 * (kk : Int) + i.toInt ≤ j ∧ j < 8 * kk + 8 then 0 else ly j) ∧ (fX0_look_l3 bg hr hc L T row n i ly dr).2 j = (if 8 * (kk : Int) + i.toInt ≤ j ∧ j < 8 * kk + 8 then fX4_isDry hc L T (Int32.ofNat (j - 8 * kk)) hr bg else dr j) := by
  intro n
  induction n with
  | zero => intro i ly dr i0 i8 hf; exfalso; omega
  | succ n ih =>
    intro i ly dr i0 i8 hf j
    rw [fX0_look_l3]
    have e8 : (8 : Int32).toInt = 8 := rfl
    by_cases q : (8 : Int32) ≤ i
    · rw [if_pos q]
      rw [Int32.le_iff_toInt_le, e8] at q
      rw [if_neg (by omega), if_neg (by omega)]
      exact ⟨rfl, rfl⟩
    · rw [if_neg q]
      rw [Int32.le_iff_toInt_le, e8] at q
      have ei : (i + 1).toInt = i.toInt + 1 := y_add (by omega) (by omega) (by decide) (by decide)
      have er : (row + i).toInt = 8 * kk + i.toInt := by rw [y_add (by omega) (by omega) (by omega) (by omega), hrow]
      have cr := z_clampN (x := row + i) (by omega)
      have ci := z_clampN i0
      obtain ⟨h1, h2⟩ := ih (i + 1) (upd ly (row + i).toNatClampNeg 0) (upd dr (row + i).toNatClampNeg (vp_nar .boolean (fX4_isDry hc L T i hr bg))) (by omega) (by omega) (by omega) j
      rw [h1, h2, ei]
      by_cases d : (j : Int) = 8 * kk + i.toInt
      · have ej : j = (row + i).toNatClampNeg := by omega
        have ek : Int32.ofNat (j - 8 * kk) = i := by rw [show j - 8 * kk = i.toNatClampNeg from by omega]; exact y_ofN i0
        have A : ¬ (8 * (kk : Int) + (i.toInt + 1) ≤ j ∧ j < 8 * kk + 8) := by omega
        have B : 8 * (kk : Int) + i.toInt ≤ j ∧ j < 8 * kk + 8 := by omega
        rw [if_neg A, if_pos B, if_neg A, if_pos B, ek, ej, pk_us, pk_us, y_nb (y_b01 hc L T i hr bg)]
        exact ⟨rfl, rfl⟩
      · rw [pk_un (by omega), pk_un (by omega)]
        by_cases g : 8 * (kk : Int) + i.toInt ≤ j ∧ j < 8 * kk + 8
        · have A : 8 * (kk : Int) + (i.toInt + 1) ≤ j ∧ j < 8 * kk + 8 := by omega
          rw [if_pos A, if_pos g, if_pos A, if_pos g]
          exact ⟨rfl, rfl⟩
        · have A : ¬ (8 * (kk : Int) + (i.toInt + 1) ≤ j ∧ j < 8 * kk + 8) := by omega
          rw [if_neg A, if_neg g, if_neg A, if_neg g]
          exact ⟨rfl, rfl⟩
theorem y_look5 {tC row : Int32} {P : Nat → Int32} {kk : Nat} (hrow : row.toInt = 8 * kk) (k7 : kk ≤ 7) (t8 : tC.toInt ≤ 8) (hP : ∀ t : Nat, (t : Int) < tC.toInt → -2 ≤ (P t).toInt ∧ (P t).toInt ≤ 7) : ∀ (n : Nat) (i : Int32) (ly : Nat → Int32), 0 ≤ i.toInt → i.toInt ≤ tC.toInt → tC.toInt - i.toInt < n → (∀ c : Nat, c < 8 → ly (8 * kk + c) = y_msk P (Int32.ofNat c) i.toNatClampNeg) →
    (∀ c : Nat, c < 8 → fX0_look_l52 tC P row n i ly (8 * kk + c) = y_msk P (Int32.ofNat c) tC.toNatClampNeg) ∧ ∀ j : Nat, (j < 8 * kk ∨ 8 * kk + 8 ≤ j) → fX0_look_l52 tC P row n i ly j = ly j := by
  intro n
  induction n with
  | zero => intro i ly i0 it hf; exfalso; omega
  | succ n ih =>
    intro i ly i0 it hf hl
    rw [fX0_look_l52]
    by_cases c : tC ≤ i
    · rw [if_pos c]
      rw [Int32.le_iff_toInt_le] at c
      have e : i = tC := Int32.toInt_inj.mp (by omega)
      rw [← e]
      exact ⟨hl, fun j _ => rfl⟩
    · rw [if_neg c]
      rw [Int32.le_iff_toInt_le] at c
      have ci := z_clampN i0
      have ei : (i + 1).toInt = i.toInt + 1 := y_add (by omega) (by omega) (by decide) (by decide)
      have ci1 := z_clampN (x := i + 1) (by omega)
      have e1 : (i + 1).toNatClampNeg = i.toNatClampNeg + 1 := by omega
      obtain ⟨p0, p1⟩ := hP i.toNatClampNeg (by omega)
      by_cases g : (P i.toNatClampNeg).toInt < 0
      · rw [if_pos (y_cell0 (Or.inl g))]
        refine ih (i + 1) ly (by omega) (by omega) (by omega) ?_
        intro c c8
        have es := y_ofS (n := c) (by omega)
        rw [e1, y_msk, if_neg (by intro h; rw [h, es] at g; omega)]
        exact hl c c8
      · rw [if_neg (by rw [y_cell1 (by omega) p1]; decide)]
        have er : (row + P i.toNatClampNeg).toInt = 8 * kk + (P i.toNatClampNeg).toInt := by rw [y_add (by omega) (by omega) (by omega) (by omega), hrow]
        have cr := z_clampN (x := row + P i.toNatClampNeg) (by omega)
        have cp := z_clampN (x := P i.toNatClampNeg) (by omega)
        have ex : (row + P i.toNatClampNeg).toNatClampNeg = 8 * kk + (P i.toNatClampNeg).toNatClampNeg := by omega
        rw [ex]
        obtain ⟨h1, h2⟩ := ih (i + 1) (upd ly (8 * kk + (P i.toNatClampNeg).toNatClampNeg) (ly (8 * kk + (P i.toNatClampNeg).toNatClampNeg) ||| jshl 1 i)) (by omega) (by omega) (by omega) (by
          intro c c8
          rw [e1, y_msk, y_ofN i0]
          by_cases d : c = (P i.toNatClampNeg).toNatClampNeg
          · have ed : P i.toNatClampNeg = Int32.ofNat c := by rw [d]; exact (y_ofN (by omega)).symm
            rw [if_pos ed, ← hl c c8, d, pk_us]
          · have ed : ¬ P i.toNatClampNeg = Int32.ofNat c := by
              intro h
              have es := y_ofS (n := c) (by omega)
              rw [← h] at es
              omega
            rw [if_neg ed, pk_un (by omega)]
            exact hl c c8)
        refine ⟨h1, ?_⟩
        intro j hj
        rw [h2 j hj, pk_un (by omega)]
theorem y_look {hc bg hr tC row : Int32} {L T P : Nat → Int32} {kk : Nat} (hrow : row.toInt = 8 * kk) (k7 : kk ≤ 7) (t0 : 0 ≤ tC.toInt) (t8 : tC.toInt ≤ 8) (hP : ∀ t : Nat, (t : Int) < tC.toInt → -2 ≤ (P t).toInt ∧ (P t).toInt ≤ 7) (ly dr : Nat → Int32) :
    (∀ c : Nat, c < 8 → (fX0_look ly dr tC bg hr P hc L T row).1 (8 * kk + c) = y_msk P (Int32.ofNat c) tC.toNatClampNeg ∧ (fX0_look ly dr tC bg hr P hc L T row).2 (8 * kk + c) = fX4_isDry hc L T (Int32.ofNat c) hr bg) ∧ ∀ j : Nat, (j < 8 * kk ∨ 8 * kk + 8 ≤ j) → (fX0_look ly dr tC bg hr P hc L T row).1 j = ly j ∧ (fX0_look ly dr tC bg hr P hc L T row).2 j = dr j := by
  have e0 : (0 : Int32).toInt = 0 := rfl
  have h3 := y_look3 (hc := hc) (bg := bg) (hr := hr) (L := L) (T := T) hrow k7 9 0 ly dr (by decide) (by decide) (by decide)
  obtain ⟨h5, h6⟩ := y_look5 (tC := tC) (P := P) hrow k7 t8 hP 9 0 (fX0_look_l3 bg hr hc L T row 9 0 ly dr).1 (by decide) t0 (by omega) (by
    intro c c8
    rw [(h3 (8 * kk + c)).1, if_pos (by omega)]
    rfl)
  unfold fX0_look fX0_look_x3 fX0_look_x52
  refine ⟨?_, ?_⟩
  · intro c c8
    refine ⟨h5 c c8, ?_⟩
    show (fX0_look_l3 bg hr hc L T row 9 0 ly dr).2 (8 * kk + c) = _
    rw [(h3 (8 * kk + c)).2, if_pos (by omega), show 8 * kk + c - 8 * kk = c from by omega]
  · intro j hj
    refine ⟨?_, ?_⟩
    · show fX0_look_l52 tC P row 9 0 (fX0_look_l3 bg hr hc L T row 9 0 ly dr).1 j = _
      rw [h6 j hj, (h3 j).1, if_neg (by omega)]
    · show (fX0_look_l3 bg hr hc L T row 9 0 ly dr).2 j = _
      rw [(h3 j).2, if_neg (by omega)]
theorem y_gow {hc bg tC h0 k : Int32} {L T rows : Nat → Int32} (t8 : tC.toInt ≤ 8) : ∀ (n : Nat) (i : Int32) (W : Nat → Int32), 0 ≤ i.toInt → i.toInt ≤ tC.toInt → tC.toInt - i.toInt < n → ∀ t : Nat, (t : Int) < tC.toInt → fX6_days_l172l85 hc h0 bg tC L T rows k n i W t = if (t : Int) < i.toInt then W t else fX6_drifts hc bg L T (rows (4 * t)) (W t) (h0 + k) := by
  intro n
  induction n with
  | zero => intro i W i0 it hf; exfalso; omega
  | succ n ih =>
    intro i W i0 it hf t ht
    rw [fX6_days_l172l85]
    by_cases c : tC ≤ i
    · rw [if_pos c]
      rw [Int32.le_iff_toInt_le] at c
      rw [if_pos (by omega)]
    · rw [if_neg c]
      rw [Int32.le_iff_toInt_le] at c
      have ci := z_clampN i0
      have ei : (i + 1).toInt = i.toInt + 1 := y_add (by omega) (by omega) (by decide) (by decide)
      obtain ⟨r0, r1, r2⟩ := y_row i0 (by omega)
      rw [ih (i + 1) _ (by omega) (by omega) (by omega) t ht, ei]
      by_cases d : t = i.toNatClampNeg
      · rw [if_pos (by omega), if_neg (by omega), d, pk_us, r0]
      · rw [pk_un d]
        by_cases g : (t : Int) < i.toInt
        · rw [if_pos (by omega), if_pos g]
        · rw [if_neg (by omega), if_neg g]
theorem y_ahead {hc bg hr tC x : Int32} {L L' T T' K P0 V rows : Nat → Int32} (hG : RG hc L L' T T') (hc1 : 1 ≤ hc.toInt) (h00 : 0 ≤ hr.toInt) (h01 : hr.toInt ≤ 512) (x0 : 0 ≤ x.toInt) (x7 : x.toInt ≤ 7) (b0 : -1 ≤ bg.toInt) (b1 : bg.toInt ≤ 7) (t0 : 0 ≤ tC.toInt) (t8 : tC.toInt ≤ 8) (hT : RT tC K P0 V rows) : ∀ (n : Nat) (k : Int32) (ly dr P : Nat → Int32), 0 ≤ k.toInt → k.toInt ≤ x.toInt + 1 → x.toInt + 1 - k.toInt < n → RWh tC P (y_pl hc bg hr L' T' rows k.toNatClampNeg) →
    (∀ kk : Nat, (kk : Int) < k.toInt → ∀ c : Nat, c < 8 → ly (8 * kk + c) = y_msk (y_pl hc bg hr L' T' rows kk) (Int32.ofNat c) tC.toNatClampNeg ∧ dr (8 * kk + c) = fX4_isDry hc L T (Int32.ofNat c) (hr + Int32.ofNat kk) bg) →
    ∀ kk : Nat, (kk : Int) ≤ x.toInt → ∀ c : Nat, c < 8 → (fX0_lookAhead_l61 tC bg K hc L T x n k ly dr P (hr + k)).1 (8 * kk + c) = y_msk (y_pl hc bg hr L' T' rows kk) (Int32.ofNat c) tC.toNatClampNeg ∧ (fX0_lookAhead_l61 tC bg K hc L T x n k ly dr P (hr + k)).2.1 (8 * kk + c) = fX4_isDry hc L T (Int32.ofNat c) (hr + Int32.ofNat kk) bg := by
  have e7 : (7 : Int32).toInt = 7 := rfl
  have e0 : (0 : Int32).toInt = 0 := rfl
  have ex : jmax (0 : Int32) (jmin x 7) = x := by
    have e : jmin x 7 = x := by
      unfold jmin
      rw [if_neg (by rw [Int32.lt_iff_toInt_lt, e7]; omega)]
    rw [e]
    unfold jmax
    by_cases q : (0 : Int32) < x
    · rw [if_pos q]
    · rw [if_neg q]
      rw [Int32.lt_iff_toInt_lt, e0] at q
      exact Int32.toInt_inj.mp (by rw [e0]; omega)
  intro n
  induction n with
  | zero => intro k ly dr P k0 kx hf; exfalso; omega
  | succ n ih =>
    intro k ly dr P k0 kx hf hP hl kk kl c c8
    rw [fX0_lookAhead_l61, ex]
    by_cases q : x < k
    · rw [if_pos q]
      rw [Int32.lt_iff_toInt_lt] at q
      exact hl kk (by omega) c c8
    · rw [if_neg q]
      rw [Int32.lt_iff_toInt_lt] at q
      have ck := z_clampN k0
      have ek : (k + 1).toInt = k.toInt + 1 := y_add (by omega) (by omega) (by decide) (by decide)
      have ck1 := z_clampN (x := k + 1) (by omega)
      have e1 : (k + 1).toNatClampNeg = k.toNatClampNeg + 1 := by omega
      have eh : (hr + k).toInt = hr.toInt + k.toInt := y_add (by omega) (by omega) (by omega) (by omega)
      have e8 : (8 : Int32).toInt = 8 := rfl
      have m8 : (k * 8).toInt = 8 * (k.toNatClampNeg : Int) := by rw [Int32.toInt_mul, e8]; simp only [Int.bmod, Nat.reducePow]; omega
      obtain ⟨g1, g2⟩ := y_look (hc := hc) (bg := bg) (hr := hr + k) (L := L) (T := T) m8 (by omega) t0 t8 (fun t ht => (hP t ht).2) ly dr
      unfold fX0_lookAhead_c78l61 fX0_lookAhead_c83l61
      dsimp only
      unfold fX3_goOn fX3_goOn_x4
      dsimp only
      rw [show hr + k + 1 = hr + (k + 1) from Int32.add_assoc hr k 1]
      have hg := y_goon (h0 := hr) (k := k) hG hc1 rfl (by omega) (by omega) b0 b1 t8 hT 9 0 0 _ _ hP (by decide)
      refine ih (k + 1) _ _ _ (by omega) (by omega) (by omega) ?_ ?_ kk kl c c8
      · intro t ht
        obtain ⟨a1, a2, a3⟩ := hg t ht
        refine ⟨?_, a2, a3⟩
        rw [a1, y_gow t8 9 0 _ (by decide) t0 (by omega) t ht, if_neg (by omega), e1, y_pl, y_ofN k0]
      · intro k2 k2l c2 c28
        by_cases d : k2 = k.toNatClampNeg
        · rw [d]
          obtain ⟨a1, a2⟩ := g1 c2 c28
          rw [a1, a2, y_ofN k0]
          refine ⟨y_mskc _ ?_, rfl⟩
          intro t ht
          have ct := z_clampN t0
          exact (hP t (by omega)).1
        · obtain ⟨a1, a2⟩ := g2 (8 * k2 + c2) (by omega)
          rw [a1, a2]
          exact hl k2 (by omega) c2 c28
theorem y_lay1 {hc bg hr x t : Int32} {L T rows : Nat → Int32} (x7 : x.toInt ≤ 7) (t0 : 0 ≤ t.toInt) (t7 : t.toInt ≤ 7) : ∀ (n : Nat) (k : Int32) (lies : Nat → Int32), 0 ≤ k.toInt → k.toInt ≤ x.toInt → x.toInt - k.toInt < n → (∀ kk : Nat, (kk : Int) ≤ k.toInt → lies (8 * kk + t.toNatClampNeg) = y_pl hc bg hr L T rows kk t.toNatClampNeg) →
    (∀ kk : Nat, (kk : Int) ≤ x.toInt → fX6_layLies_l28l2 hc hr bg L T rows x t n k lies (8 * kk + t.toNatClampNeg) = y_pl hc bg hr L T rows kk t.toNatClampNeg) ∧ ∀ kk u : Nat, u < 8 → ¬ u = t.toNatClampNeg → fX6_layLies_l28l2 hc hr bg L T rows x t n k lies (8 * kk + u) = lies (8 * kk + u) := by
  intro n
  induction n with
  | zero => intro k lies k0 kx hf; exfalso; omega
  | succ n ih =>
    intro k lies k0 kx hf hl
    rw [fX6_layLies_l28l2]
    by_cases q : x ≤ k
    · rw [if_pos q]
      rw [Int32.le_iff_toInt_le] at q
      exact ⟨fun kk kl => hl kk (by omega), fun kk u _ _ => rfl⟩
    · rw [if_neg q]
      rw [Int32.le_iff_toInt_le] at q
      have ck := z_clampN k0
      have ct := z_clampN t0
      have ek : (k + 1).toInt = k.toInt + 1 := y_add (by omega) (by omega) (by decide) (by decide)
      have ck1 := z_clampN (x := k + 1) (by omega)
      have e8 : (8 : Int32).toInt = 8 := rfl
      have m8 : (8 * k).toInt = 8 * k.toInt := by rw [Int32.toInt_mul, e8]; simp only [Int.bmod, Nat.reducePow]; omega
      have m81 : (8 * (k + 1)).toInt = 8 * (k.toInt + 1) := by rw [Int32.toInt_mul, e8, ek]; simp only [Int.bmod, Nat.reducePow]; omega
      have a1 : (8 * k + t).toInt = 8 * k.toInt + t.toInt := by rw [y_add (by omega) (by omega) (by omega) (by omega), m8]
      have a2 : (8 * (k + 1) + t).toInt = 8 * (k.toInt + 1) + t.toInt := by rw [y_add (by omega) (by omega) (by omega) (by omega), m81]
      have c1 := z_clampN (x := 8 * k + t) (by omega)
      have c2 := z_clampN (x := 8 * (k + 1) + t) (by omega)
      have x1 : (8 * k + t).toNatClampNeg = 8 * k.toNatClampNeg + t.toNatClampNeg := by omega
      have x2 : (8 * (k + 1) + t).toNatClampNeg = 8 * (k.toNatClampNeg + 1) + t.toNatClampNeg := by omega
      obtain ⟨r0, r1, r2⟩ := y_row t0 (by omega)
      rw [x1, x2, r0, hl k.toNatClampNeg (by omega)]
      obtain ⟨h1, h2⟩ := ih (k + 1) (upd lies (8 * (k.toNatClampNeg + 1) + t.toNatClampNeg) (fX6_drifts hc bg L T (rows (4 * t.toNatClampNeg)) (y_pl hc bg hr L T rows k.toNatClampNeg t.toNatClampNeg) (hr + k))) (by omega) (by omega) (by omega) (by
        intro kk kl
        by_cases d : kk = k.toNatClampNeg + 1
        · rw [d, pk_us, y_pl, y_ofN k0]
        · rw [pk_un (by omega)]
          exact hl kk (by omega))
      refine ⟨h1, ?_⟩
      intro kk u u8 un
      rw [h2 kk u u8 un, pk_un (by omega)]
theorem y_lay {hc bg hr x tC : Int32} {L T rows : Nat → Int32} (x0 : 0 ≤ x.toInt) (x7 : x.toInt ≤ 7) (t8 : tC.toInt ≤ 8) : ∀ (n : Nat) (t : Int32) (lies : Nat → Int32), 0 ≤ t.toInt → t.toInt ≤ tC.toInt → tC.toInt - t.toInt < n → (∀ u : Nat, (u : Int) < t.toInt → ∀ kk : Nat, (kk : Int) ≤ x.toInt → lies (8 * kk + u) = y_pl hc bg hr L T rows kk u) →
    ∀ u : Nat, (u : Int) < tC.toInt → ∀ kk : Nat, (kk : Int) ≤ x.toInt → fX6_layLies_l2 hc hr bg tC L T rows x n t lies (8 * kk + u) = y_pl hc bg hr L T rows kk u := by
  intro n
  induction n with
  | zero => intro t lies i0 it hf; exfalso; omega
  | succ n ih =>
    intro t lies i0 it hf hl u ul kk kl
    rw [fX6_layLies_l2]
    by_cases c : tC ≤ t
    · rw [if_pos c]
      rw [Int32.le_iff_toInt_le] at c
      exact hl u (by omega) kk kl
    · rw [if_neg c]
      rw [Int32.le_iff_toInt_le] at c
      have ct := z_clampN i0
      have e0 : (0 : Int32).toInt = 0 := rfl
      have ei : (t + 1).toInt = t.toInt + 1 := y_add (by omega) (by omega) (by decide) (by decide)
      obtain ⟨r0, r1, r2⟩ := y_row i0 (by omega)
      obtain ⟨h1, h2⟩ := y_lay1 (hc := hc) (bg := bg) (hr := hr) (L := L) (T := T) (rows := rows) x7 i0 (by omega) 8 0 (upd lies t.toNatClampNeg (rows (4 * t + 1).toNatClampNeg)) (by decide) x0 (by omega) (by
        intro k2 k2l
        have k20 : k2 = 0 := by omega
        rw [k20, Nat.mul_zero, Nat.zero_add, pk_us, r1]
        rfl)
      unfold fX6_layLies_x28l2
      refine ih (t + 1) _ (by omega) (by omega) (by omega) ?_ u ul kk kl
      intro u2 u2l k2 k2l
      by_cases d : u2 = t.toNatClampNeg
      · rw [d]; exact h1 k2 k2l
      · rw [h2 k2 u2 (by omega) d]
        by_cases g : 8 * k2 + u2 = t.toNatClampNeg
        · exfalso; omega
        · rw [pk_un g]; exact hl u2 (by omega) k2 k2l
