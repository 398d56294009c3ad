set_option maxRecDepth 100000 in
set_option maxHeartbeats 8000000 in
theorem y_bit2_all : ∀ t : Fin 8, ∀ u : Fin 8, ∀ s : Fin 256, jshr (Int32.ofNat s.val ||| jshl 1 (Int32.ofNat t.val)) (Int32.ofNat u.val) &&& 1 = if u.val = t.val then 1 else jshr (Int32.ofNat s.val) (Int32.ofNat u.val) &&& 1 := by decide +kernel
set_option maxRecDepth 100000 in
set_option maxHeartbeats 8000000 in
theorem y_or8_all : ∀ t : Fin 8, ∀ s : Fin 256, 0 ≤ Int32.ofNat s.val ||| jshl 1 (Int32.ofNat t.val) ∧ Int32.ofNat s.val ||| jshl 1 (Int32.ofNat t.val) ≤ 255 ∧ (¬ jshr (Int32.ofNat s.val) (Int32.ofNat t.val) &&& 1 = 0 → Int32.ofNat s.val ||| jshl 1 (Int32.ofNat t.val) = Int32.ofNat s.val) := by decide +kernel
theorem y_ofN {a : Int32} (a0 : 0 ≤ a.toInt) : Int32.ofNat a.toNatClampNeg = a := by
  have ca := z_clampN a0
  have l := Int32.toInt_lt a
  exact Int32.toInt_inj.mp (by rw [Int32.toInt_ofNat_of_lt (by omega)]; omega)
theorem y_bit2 {t u s : Int32} (t0 : 0 ≤ t.toInt) (t7 : t.toInt ≤ 7) (u0 : 0 ≤ u.toInt) (u7 : u.toInt ≤ 7) (s0 : 0 ≤ s.toInt) (s1 : s.toInt ≤ 255) (h : ¬ u.toInt = t.toInt) : jshr (s ||| jshl 1 t) u &&& 1 = jshr s u &&& 1 := by
  have ct := z_clampN t0
  have cu := z_clampN u0
  have cs := z_clampN s0
  have h2 := y_bit2_all ⟨t.toNatClampNeg, by omega⟩ ⟨u.toNatClampNeg, by omega⟩ ⟨s.toNatClampNeg, by omega⟩
  simp only [y_ofN t0, y_ofN u0, y_ofN s0] at h2
  rw [if_neg (by omega)] at h2
  exact h2
theorem y_bit2s {t s : Int32} (t0 : 0 ≤ t.toInt) (t7 : t.toInt ≤ 7) (s0 : 0 ≤ s.toInt) (s1 : s.toInt ≤ 255) : jshr (s ||| jshl 1 t) t &&& 1 = 1 := by
  have ct := z_clampN t0
  have cs := z_clampN s0
  have h2 := y_bit2_all ⟨t.toNatClampNeg, by omega⟩ ⟨t.toNatClampNeg, by omega⟩ ⟨s.toNatClampNeg, by omega⟩
  simp only [y_ofN t0, y_ofN s0] at h2
  rw [if_pos trivial] at h2
  exact h2
theorem y_or8 {t s : Int32} (t0 : 0 ≤ t.toInt) (t7 : t.toInt ≤ 7) (s0 : 0 ≤ s.toInt) (s1 : s.toInt ≤ 255) : 0 ≤ (s ||| jshl 1 t).toInt ∧ (s ||| jshl 1 t).toInt ≤ 255 ∧ (¬ jshr s t &&& 1 = 0 → s ||| jshl 1 t = s) := by
  have ct := z_clampN t0
  have cs := z_clampN s0
  have h2 := y_or8_all ⟨t.toNatClampNeg, by omega⟩ ⟨s.toNatClampNeg, by omega⟩
  simp only [y_ofN t0, y_ofN s0] at h2
  rw [Int32.le_iff_toInt_le, Int32.le_iff_toInt_le] at h2
  exact h2
theorem y_wshift (V : Nat → Int32) (T : Int32) : ∀ (n : Nat) (i a d : Int32), 0 ≤ i.toInt → i.toInt ≤ 8 → 8 - i.toInt < n → fX0_worthOf_l4 V T n i (a + d) = fX0_worthOf_l4 V T n i a + d := by
  intro n
  induction n with
  | zero => intro i a d i0 i8 hf; exfalso; omega
  | succ n ih =>
    intro i a d i0 i8 hf
    rw [fX0_worthOf_l4, fX0_worthOf_l4]
    have e8 : (8 : Int32).toInt = 8 := rfl
    by_cases q : (8 : Int32) ≤ i
    · rw [if_pos q, if_pos q]
    · rw [if_neg q, if_neg q]
      rw [Int32.le_iff_toInt_le, e8] at q
      have ei : (i + 1).toInt = i.toInt + 1 := y_add (by omega) (by omega) (by decide) (by decide)
      have ea : a + d + V i.toNatClampNeg = a + V i.toNatClampNeg + d := by
        rw [Int32.add_assoc, Int32.add_comm d, ← Int32.add_assoc]
      rw [ea, ih (i + 1) _ d (by omega) (by omega) (by omega), ih (i + 1) a d (by omega) (by omega) (by omega)]
      split
      · rfl
      · rfl
theorem y_wabove {V : Nat → Int32} {T t : Int32} (T0 : 0 ≤ T.toInt) (T1 : T.toInt ≤ 255) (t0 : 0 ≤ t.toInt) (t7 : t.toInt ≤ 7) : ∀ (n : Nat) (i a : Int32), t.toInt < i.toInt → i.toInt ≤ 8 → fX0_worthOf_l4 V (T ||| jshl 1 t) n i a = fX0_worthOf_l4 V T n i a := by
  intro n
  induction n with
  | zero => intro i a i0 i8; rw [fX0_worthOf_l4, fX0_worthOf_l4]
  | succ n ih =>
    intro i a i0 i8
    rw [fX0_worthOf_l4, fX0_worthOf_l4]
    have e8 : (8 : Int32).toInt = 8 := rfl
    by_cases q : (8 : Int32) ≤ i
    · rw [if_pos q, if_pos q]
    · rw [if_neg q, if_neg q]
      rw [Int32.le_iff_toInt_le, e8] at q
      have ei : (i + 1).toInt = i.toInt + 1 := y_add (by omega) (by omega) (by decide) (by decide)
      rw [y_bit2 t0 t7 (u := i) (by omega) (by omega) T0 T1 (by omega), ih (i + 1) _ (by omega) (by omega), ih (i + 1) _ (by omega) (by omega)]
theorem y_wadd {V : Nat → Int32} {T t : Int32} (T0 : 0 ≤ T.toInt) (T1 : T.toInt ≤ 255) (t0 : 0 ≤ t.toInt) (t7 : t.toInt ≤ 7) (h0 : jshr T t &&& 1 = 0) : ∀ (n : Nat) (i a : Int32), 0 ≤ i.toInt → i.toInt ≤ t.toInt → 8 - i.toInt < n → fX0_worthOf_l4 V (T ||| jshl 1 t) n i a = fX0_worthOf_l4 V T n i a + V t.toNatClampNeg := by
  intro n
  induction n with
  | zero => intro i a i0 i8 hf; exfalso; omega
  | succ n ih =>
    intro i a i0 i8 hf
    rw [fX0_worthOf_l4, fX0_worthOf_l4]
    have e8 : (8 : Int32).toInt = 8 := rfl
    have q : ¬ (8 : Int32) ≤ i := by rw [Int32.le_iff_toInt_le, e8]; omega
    rw [if_neg q, if_neg q]
    have ei : (i + 1).toInt = i.toInt + 1 := y_add (by omega) (by omega) (by decide) (by decide)
    by_cases d : i.toInt = t.toInt
    · have e : i = t := Int32.toInt_inj.mp d
      subst e
      rw [y_bit2s t0 t7 T0 T1, if_pos rfl, h0, if_neg (by decide : ¬ (0 : Int32) = 1), y_wabove T0 T1 t0 t7 n (i + 1) _ (by omega) (by omega), y_wshift V T n (i + 1) a _ (by omega) (by omega) (by omega)]
    · rw [y_bit2 t0 t7 i0 (by omega) T0 T1 d, ih (i + 1) _ (by omega) (by omega) (by omega), ih (i + 1) _ (by omega) (by omega) (by omega)]
      split
      · rfl
      · rfl
theorem y_wor {V : Nat → Int32} {T t : Int32} (T0 : 0 ≤ T.toInt) (T1 : T.toInt ≤ 255) (t0 : 0 ≤ t.toInt) (t7 : t.toInt ≤ 7) (h0 : jshr T t &&& 1 = 0) : fX0_worthOf V (T ||| jshl 1 t) = fX0_worthOf V T + V t.toNatClampNeg := y_wadd T0 T1 t0 t7 h0 9 0 0 (by decide) t0 (by decide)
def y_msk (q : Nat → Int32) (c : Int32) : Nat → Int32
  | 0 => 0
  | n + 1 => if q n = c then y_msk q c n ||| jshl 1 (Int32.ofNat n) else y_msk q c n
theorem y_mskc {q r : Nat → Int32} {c : Int32} : ∀ n : Nat, (∀ t : Nat, t < n → q t = r t) → y_msk q c n = y_msk r c n := by
  intro n
  induction n with
  | zero => intro h; rfl
  | succ n ih =>
    intro h
    rw [y_msk, y_msk, h n (by omega), ih (fun t ht => h t (by omega))]
theorem y_take1 {tC k : Int32} {K P V rows lies q : Nat → Int32} (t8 : tC.toInt ≤ 8) (hT : RT tC K P V rows) (k0 : 0 ≤ k.toInt) (k7 : k.toInt ≤ 7) (hq : ∀ t : Nat, (t : Int) < tC.toInt → lies (8 * k.toNatClampNeg + t) = q t) (a T0 : Int32) : ∀ (n : Nat) (i T s : Int32), 0 ≤ i.toInt → i.toInt ≤ tC.toInt → tC.toInt - i.toInt < n → 0 ≤ T.toInt → T.toInt ≤ 255 → s = fX0_worthOf V T → T = T0 ||| y_msk q a i.toNatClampNeg →
    fX6_worthOf_l138l52 tC rows lies k 1 a n i s T = (fX0_worthOf V (T0 ||| y_msk q a tC.toNatClampNeg), T0 ||| y_msk q a tC.toNatClampNeg) ∧ 0 ≤ (T0 ||| y_msk q a tC.toNatClampNeg).toInt ∧ (T0 ||| y_msk q a tC.toNatClampNeg).toInt ≤ 255 := by
  intro n
  induction n with
  | zero => intro i T s i0 it hf; exfalso; omega
  | succ n ih =>
    intro i T s i0 it hf b0 b1 hs hm
    rw [fX6_worthOf_l138l52]
    by_cases c : tC ≤ i
    · rw [if_pos c]
      rw [Int32.le_iff_toInt_le] at c
      have e : i = tC := Int32.toInt_inj.mp (by omega)
      rw [← e, ← hm, ← hs]
      exact ⟨rfl, b0, b1⟩
    · rw [if_neg c, if_neg (by decide : ¬ (1 : Int32) = 0)]
      rw [Int32.le_iff_toInt_le] at c
      obtain ⟨r0, r1, r2, r3, r4, r5, r6, r7, r8⟩ := hT.at i0 (by omega) (by omega)
      have ci := z_clampN i0
      have ck := z_clampN k0
      have ei : (i + 1).toInt = i.toInt + 1 := y_add (by omega) (by omega) (by decide) (by decide)
      have ci1 := z_clampN (x := i + 1) (by omega)
      have e1 : (i + 1).toNatClampNeg = i.toNatClampNeg + 1 := by omega
      have e8 : (8 : Int32).toInt = 8 := rfl
      have m8 : (8 * k).toInt = 8 * k.toInt := by rw [Int32.toInt_mul, e8]; simp only [Int.bmod, Nat.reducePow]; omega
      have m8i : (8 * k + i).toInt = 8 * k.toInt + i.toInt := by rw [y_add (by omega) (by omega) (by omega) (by omega), m8]
      have cx := z_clampN (x := 8 * k + i) (by omega)
      have ex : (8 * k + i).toNatClampNeg = 8 * k.toNatClampNeg + i.toNatClampNeg := by omega
      rw [ex, hq i.toNatClampNeg (by omega), ← r2]
      by_cases d : q i.toNatClampNeg = a
      · rw [if_pos d]
        have hm' : T ||| jshl 1 i = T0 ||| y_msk q a (i + 1).toNatClampNeg := by
          rw [e1, y_msk, if_pos d, y_ofN i0, ← Int32.or_assoc, ← hm]
        obtain ⟨o1, o2, o3⟩ := y_or8 i0 (by omega) b0 b1
        by_cases z : jshr T i &&& 1 = 0
        · rw [if_pos z]
          exact ih (i + 1) (T ||| jshl 1 i) _ (by omega) (by omega) (by omega) o1 o2 (by rw [y_wor b0 b1 i0 (by omega) z, hs]) hm'
        · rw [if_neg z]
          rw [o3 z] at hm'
          exact ih (i + 1) T s (by omega) (by omega) (by omega) b0 b1 hs hm'
      · rw [if_neg d]
        exact ih (i + 1) T s (by omega) (by omega) (by omega) b0 b1 hs (by rw [e1, y_msk, if_neg d]; exact hm)
theorem y_take0 {tC k : Int32} {rows lies : Nat → Int32} (a : Int32) : ∀ (n : Nat) (i s T : Int32), fX6_worthOf_l138l52 tC rows lies k 0 a (n + 1) i s T = (s, T) := by
  intro n i s T
  rw [fX6_worthOf_l138l52, if_pos rfl, ite_self]
theorem y_takeS {tC k : Int32} {K P V rows lies : Nat → Int32} (t8 : tC.toInt ≤ 8) (hT : RT tC K P V rows) (b a : Int32) : ∀ (n : Nat) (i s T : Int32), 0 ≤ i.toInt → i.toInt ≤ 8 → 0 ≤ s.toInt → s.toInt ≤ 50 * i.toInt → 0 ≤ (fX6_worthOf_l138l52 tC rows lies k b a n i s T).1.toInt := by
  intro n
  induction n with
  | zero => intro i s T i0 i8 s0 s1; rw [fX6_worthOf_l138l52]; decide
  | succ n ih =>
    intro i s T i0 i8 s0 s1
    rw [fX6_worthOf_l138l52]
    by_cases c : tC ≤ i
    · rw [if_pos c]; exact s0
    · rw [if_neg c]
      rw [Int32.le_iff_toInt_le] at c
      by_cases z : b = 0
      · rw [if_pos z]; exact s0
      · rw [if_neg z]
        obtain ⟨r0, r1, r2, r3, r4, r5, r6, r7, r8⟩ := hT.at i0 (by omega) (by omega)
        rw [r2] at r7 r8
        have ei : (i + 1).toInt = i.toInt + 1 := y_add (by omega) (by omega) (by decide) (by decide)
        have es : (s + rows (4 * i + 2).toNatClampNeg).toInt = s.toInt + (rows (4 * i + 2).toNatClampNeg).toInt := y_add (by omega) (by omega) (by omega) (by omega)
        split
        · split
          · exact ih (i + 1) _ _ (by omega) (by omega) (by omega) (by omega)
          · exact ih (i + 1) _ _ (by omega) (by omega) (by omega) (by omega)
        · exact ih (i + 1) _ _ (by omega) (by omega) (by omega) (by omega)
