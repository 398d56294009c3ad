def fX5_isCell (x0 : Int32) : Int32 := (if x0 < 0 then (0 : Int32) else (if (8 : Int32) ≤ x0 then (0 : Int32) else (1 : Int32)))
theorem zX5_isCell (x0 : Int32) : fX5_isCell x0 = 0 ∨ ((0 : Int32) ≤ x0 ∧ x0 < 8) := by
  unfold fX5_isCell
  grind
abbrev rmX5_isCell : Room := { frames := 0, cells := 0, slots := 0, locals := 0 }
set_option maxHeartbeats 4000000 in
set_option maxRecDepth 100000 in
theorem mX5_isCell (l : Launch) (dC : Nat → ClassId) (dI : Nat → Nat → Nat) (cyI cyC cyZ : ClassId) (tF tE : Nat) (x0 : Int32) (T : Int32) (hT : fX5_isCell x0 = T) : Met l yX5_isCell wsX5_isCell rmX5_isCell (va_Pc [.int x0] (fun U => va_P (dC, dI) vwCl [] U.heap ∧ zE (fun _ => False) dC dI cyI cyC cyZ tF tE U U.heap)) (vp_Si (fun r => r = T ∧ (r = 0 ∨ r = 1))) 0 0 (fun _ => False) := by
  rw [fX5_isCell] at hT
  refine z_pz (cc := cX5_isCell) (maxL := 1) (post := fun r => r = T) (by decide) rfl (Nat.le_of_ble_eq_true rfl) ?_
  intro p e s m below meth c Q hx hb hml hown hts hB hret ls hl
  obtain ⟨hP, hE⟩ := hB
  have hown : s.vm.findClass RX5 = some m.cls := hown
  have hS : va_S (fun _ => False) s.heap s.heap [] := va_S.rf
  have hl : lv_has ls 1 [(0, .int x0)] := hl
  refine lv_iload_n hx hb dX5_isCell_0 rfl (lv_at hl 0 rfl) ?_
  refine lv_if_lt (tgt := 14) hx hb dX5_isCell_1 (by decide) (fun c_1 => ?_) (fun c_1 => ?_)
  · have hT := (if_pos c_1).symm.trans hT
    refine lv_iconst (v := (0 : Int32)) hx hb dX5_isCell_14 (by decide) ?_
    exact hret _ _ _ (Or.inl rfl) dX5_isCell_15 hT
  · have hT := (if_neg c_1).symm.trans hT
    refine lv_iload_n hx hb dX5_isCell_4 rfl (lv_at hl 0 rfl) ?_
    refine lv_bipush (v := (8 : Int32)) hx hb dX5_isCell_5 (by decide) ?_
    refine lv_icmp_ge (tgt := 14) hx hb dX5_isCell_7 (by decide) (fun c_2 => ?_) (fun c_2 => ?_)
    · have hT := (if_pos c_2).symm.trans hT
      refine lv_iconst (v := (0 : Int32)) hx hb dX5_isCell_14 (by decide) ?_
      exact hret _ _ _ (Or.inl rfl) dX5_isCell_15 hT
    · have hT := (if_neg c_2).symm.trans hT
      refine lv_iconst (v := (1 : Int32)) hx hb dX5_isCell_10 (by decide) ?_
      refine lv_goto (tgt := 15) hx hb dX5_isCell_11 (by decide) ?_
      exact hret _ _ _ (Or.inr rfl) dX5_isCell_15 hT

def fX5_isKind (x0 : Int32) : Int32 := (if x0 < 0 then (0 : Int32) else (if (5 : Int32) ≤ x0 then (0 : Int32) else (1 : Int32)))
theorem zX5_isKind (x0 : Int32) : fX5_isKind x0 = 0 ∨ ((0 : Int32) ≤ x0 ∧ x0 < 5) := by
  unfold fX5_isKind
  grind
abbrev rmX5_isKind : Room := { frames := 0, cells := 0, slots := 0, locals := 0 }
set_option maxHeartbeats 4000000 in
set_option maxRecDepth 100000 in
theorem mX5_isKind (l : Launch) (dC : Nat → ClassId) (dI : Nat → Nat → Nat) (cyI cyC cyZ : ClassId) (tF tE : Nat) (x0 : Int32) (T : Int32) (hT : fX5_isKind x0 = T) : Met l yX5_isKind wsX5_isKind rmX5_isKind (va_Pc [.int x0] (fun U => va_P (dC, dI) vwCl [] U.heap ∧ zE (fun _ => False) dC dI cyI cyC cyZ tF tE U U.heap)) (vp_Si (fun r => r = T ∧ (r = 0 ∨ r = 1))) 0 0 (fun _ => False) := by
  rw [fX5_isKind] at hT
  refine z_pz (cc := cX5_isKind) (maxL := 1) (post := fun r => r = T) (by decide) rfl (Nat.le_of_ble_eq_true rfl) ?_
  intro p e s m below meth c Q hx hb hml hown hts hB hret ls hl
  obtain ⟨hP, hE⟩ := hB
  have hown : s.vm.findClass RX5 = some m.cls := hown
  have hS : va_S (fun _ => False) s.heap s.heap [] := va_S.rf
  have hl : lv_has ls 1 [(0, .int x0)] := hl
  refine lv_iload_n hx hb dX5_isKind_0 rfl (lv_at hl 0 rfl) ?_
  refine lv_if_lt (tgt := 13) hx hb dX5_isKind_1 (by decide) (fun c_1 => ?_) (fun c_1 => ?_)
  · have hT := (if_pos c_1).symm.trans hT
    refine lv_iconst (v := (0 : Int32)) hx hb dX5_isKind_13 (by decide) ?_
    exact hret _ _ _ (Or.inl rfl) dX5_isKind_14 hT
  · have hT := (if_neg c_1).symm.trans hT
    refine lv_iload_n hx hb dX5_isKind_4 rfl (lv_at hl 0 rfl) ?_
    refine lv_iconst (v := (5 : Int32)) hx hb dX5_isKind_5 (by decide) ?_
    refine lv_icmp_ge (tgt := 13) hx hb dX5_isKind_6 (by decide) (fun c_2 => ?_) (fun c_2 => ?_)
    · have hT := (if_pos c_2).symm.trans hT
      refine lv_iconst (v := (0 : Int32)) hx hb dX5_isKind_13 (by decide) ?_
      exact hret _ _ _ (Or.inl rfl) dX5_isKind_14 hT
    · have hT := (if_neg c_2).symm.trans hT
      refine lv_iconst (v := (1 : Int32)) hx hb dX5_isKind_9 (by decide) ?_
      refine lv_goto (tgt := 14) hx hb dX5_isKind_10 (by decide) ?_
      exact hret _ _ _ (Or.inr rfl) dX5_isKind_14 hT

def fJ9_floorMod_7cf53 (x0 : Int32) (x1 : Int32) : Int32 := (if 0 ≤ (x0 ^^^ x1) then (jrem x0 x1) else (if (jrem x0 x1) = 0 then (jrem x0 x1) else ((jrem x0 x1) + x1)))
theorem zJ9_floorMod_7cf53 (x0 x1 : Int32) : (0 : Int32) < x1 → (0 : Int32) ≤ fJ9_floorMod_7cf53 x0 x1 ∧ fJ9_floorMod_7cf53 x0 x1 < x1 := by
  intro h
  have h' : 0 < x1.toInt := by rw [Int32.lt_iff_toInt_lt] at h; simpa using h
  have hb := z_tmod_lt x0.toInt x1.toInt h'
  have hr := jrem_toInt x0 x1 h'
  rw [← hr] at hb
  have hx : x1.toInt < 2147483648 := Int32.toInt_lt x1
  have hs : (0 : Int32) ≤ x0 ^^^ x1 ↔ 0 ≤ x0.toInt := by
    have k : (x0 ^^^ x1).toBitVec.msb = (x0.toBitVec.msb ^^ x1.toBitVec.msb) := by rw [Int32.toBitVec_xor, BitVec.msb_xor]
    rw [BitVec.msb_eq_toInt, BitVec.msb_eq_toInt, BitVec.msb_eq_toInt] at k
    have e : ∀ v : Int32, v.toBitVec.toInt = v.toInt := fun v => rfl
    simp only [e] at k
    have n1 : decide (x1.toInt < 0) = false := decide_eq_false (by omega)
    rw [n1, Bool.xor_false] at k
    have k2 := decide_eq_decide.mp k
    rw [Int32.le_iff_toInt_le]
    show 0 ≤ _ ↔ _
    omega
  have ht : x0.toInt < 0 → (jrem x0 x1).toInt ≤ 0 := by
    intro hn; rw [hr]
    have q := Int.tmod_nonneg x1.toInt (show 0 ≤ -x0.toInt by omega)
    rw [Int.neg_tmod] at q
    omega
  have ht2 : 0 ≤ x0.toInt → 0 ≤ (jrem x0 x1).toInt := by
    intro hn; rw [hr]; exact Int.tmod_nonneg _ hn
  unfold fJ9_floorMod_7cf53
  split
  · rename_i c; rw [hs] at c; have := ht2 c
    simp only [Int32.le_iff_toInt_le, Int32.lt_iff_toInt_lt, Int32.reduceToInt] at * <;> omega
  · rename_i c; rw [hs] at c
    split
    · rename_i c2; simp only [← Int32.toInt_inj, Int32.le_iff_toInt_le, Int32.lt_iff_toInt_lt, Int32.reduceToInt] at * <;> omega
    · rename_i c2
      have := ht (by omega)
      simp only [← Int32.toInt_inj, Int32.le_iff_toInt_le, Int32.lt_iff_toInt_lt, Int32.toInt_add, Int.bmod, Int32.reduceToInt] at * <;> omega
abbrev rmJ9_floorMod_7cf53 : Room := { frames := 0, cells := 0, slots := 0, locals := 0 }
set_option maxHeartbeats 4000000 in
set_option maxRecDepth 100000 in
theorem mJ9_floorMod_7cf53 (l : Launch) (dC : Nat → ClassId) (dI : Nat → Nat → Nat) (cyI cyC cyZ : ClassId) (tF tE : Nat) (x0 : Int32) (x1 : Int32) (h0 : ¬ x1 = 0) (T : Int32) (hT : fJ9_floorMod_7cf53 x0 x1 = T) : Met l yJ9_floorMod_7cf53 wsJ9_floorMod_7cf53 rmJ9_floorMod_7cf53 (va_Pc [.int x0, .int x1] (fun U => va_P (dC, dI) vwCl [] U.heap ∧ zE (fun _ => False) dC dI cyI cyC cyZ tF tE U U.heap)) (vp_Si (fun r => r = T)) 0 0 (fun _ => False) := by
  rw [fJ9_floorMod_7cf53] at hT
  refine z_piF (cc := cJ9_floorMod_7cf53) (maxL := 3) (post := fun r => r = T) (by decide +kernel) rfl (Nat.le_of_ble_eq_true rfl) ?_
  intro p e s m below meth c Q hx hb hml hown hts hB hret ls hl
  obtain ⟨hP, hE⟩ := hB
  have hown : s.vm.findClass RJ9 = some m.cls := hown
  have hS : va_S (fun _ => False) s.heap s.heap [] := va_S.rf
  have hl : lv_has ls 3 [(0, .int x0), (1, .int x1)] := hl
  refine lv_iload_n hx hb dJ9_floorMod_7cf53_0 rfl (lv_at hl 0 rfl) ?_
  refine lv_iload_n hx hb dJ9_floorMod_7cf53_1 rfl (lv_at hl 1 rfl) ?_
  refine lv_irem hx hb dJ9_floorMod_7cf53_2 (show ¬ x1 = 0 by simp only [vp_in_iff, ← Int32.toInt_inj, Int32.le_iff_toInt_le, Int32.lt_iff_toInt_lt, Int32.toInt_add, Int32.toInt_sub, Int32.toInt_mul, Int.bmod, Int32.reduceToInt, Nat.reducePow, Int32.toInt_toInt64, Int64.reduceToInt] at h0 ⊢ <;> omega) ?_
  refine lv_topi (fun v_1 ev_1 => ?_)
  obtain rfl : v_1 = (jrem x0 x1) := ev_1
  refine lv_istore_n (lv' := [(2, .int (jrem x0 x1)), (0, .int x0), (1, .int x1)]) hx hb dJ9_floorMod_7cf53_3 rfl hl (by decide) rfl (fun ls hl => ?_)
  refine lv_iload_n hx hb dJ9_floorMod_7cf53_4 rfl (lv_at hl 1 rfl) ?_
  refine lv_iload_n hx hb dJ9_floorMod_7cf53_5 rfl (lv_at hl 2 rfl) ?_
  refine lv_ixor hx hb dJ9_floorMod_7cf53_6 ?_
  refine lv_if_ge (tgt := 18) hx hb dJ9_floorMod_7cf53_7 (by decide) (fun c_2 => ?_) (fun c_2 => ?_)
  · have hT := (if_pos c_2).symm.trans hT
    refine lv_iload_n hx hb dJ9_floorMod_7cf53_18 rfl (lv_at hl 0 rfl) ?_
    exact hret _ _ _ dJ9_floorMod_7cf53_19 hT
  · have hT := (if_neg c_2).symm.trans hT
    refine lv_iload_n hx hb dJ9_floorMod_7cf53_10 rfl (lv_at hl 0 rfl) ?_
    refine lv_if_eq (tgt := 18) hx hb dJ9_floorMod_7cf53_11 (by decide) (fun c_3 => ?_) (fun c_3 => ?_)
    · have hT := (if_pos c_3).symm.trans hT
      refine lv_iload_n hx hb dJ9_floorMod_7cf53_18 rfl (lv_at hl 0 rfl) ?_
      exact hret _ _ _ dJ9_floorMod_7cf53_19 hT
    · have hT := (if_neg c_3).symm.trans hT
      refine lv_iload_n hx hb dJ9_floorMod_7cf53_14 rfl (lv_at hl 0 rfl) ?_
      refine lv_iload_n hx hb dJ9_floorMod_7cf53_15 rfl (lv_at hl 2 rfl) ?_
      refine lv_iadd hx hb dJ9_floorMod_7cf53_16 ?_
      exact hret _ _ _ dJ9_floorMod_7cf53_17 hT

def fJ6_bitCount_0f7a4 (x0 : Int32) : Int32 := ((((((((x0 - ((jushr x0 (1 : Int32)) &&& (1431655765 : Int32))) &&& (858993459 : Int32)) + ((jushr (x0 - ((jushr x0 (1 : Int32)) &&& (1431655765 : Int32))) (2 : Int32)) &&& (858993459 : Int32))) + (jushr (((x0 - ((jushr x0 (1 : Int32)) &&& (1431655765 : Int32))) &&& (858993459 : Int32)) + ((jushr (x0 - ((jushr x0 (1 : Int32)) &&& (1431655765 : Int32))) (2 : Int32)) &&& (858993459 : Int32))) (4 : Int32))) &&& (252645135 : Int32)) + (jushr (((((x0 - ((jushr x0 (1 : Int32)) &&& (1431655765 : Int32))) &&& (858993459 : Int32)) + ((jushr (x0 - ((jushr x0 (1 : Int32)) &&& (1431655765 : Int32))) (2 : Int32)) &&& (858993459 : Int32))) + (jushr (((x0 - ((jushr x0 (1 : Int32)) &&& (1431655765 : Int32))) &&& (858993459 : Int32)) + ((jushr (x0 - ((jushr x0 (1 : Int32)) &&& (1431655765 : Int32))) (2 : Int32)) &&& (858993459 : Int32))) (4 : Int32))) &&& (252645135 : Int32)) (8 : Int32))) + (jushr ((((((x0 - ((jushr x0 (1 : Int32)) &&& (1431655765 : Int32))) &&& (858993459 : Int32)) + ((jushr (x0 - ((jushr x0 (1 : Int32)) &&& (1431655765 : Int32))) (2 : Int32)) &&& (858993459 : Int32))) + (jushr (((x0 - ((jushr x0 (1 : Int32)) &&& (1431655765 : Int32))) &&& (858993459 : Int32)) + ((jushr (x0 - ((jushr x0 (1 : Int32)) &&& (1431655765 : Int32))) (2 : Int32)) &&& (858993459 : Int32))) (4 : Int32))) &&& (252645135 : Int32)) + (jushr (((((x0 - ((jushr x0 (1 : Int32)) &&& (1431655765 : Int32))) &&& (858993459 : Int32)) + ((jushr (x0 - ((jushr x0 (1 : Int32)) &&& (1431655765 : Int32))) (2 : Int32)) &&& (858993459 : Int32))) + (jushr (((x0 - ((jushr x0 (1 : Int32)) &&& (1431655765 : Int32))) &&& (858993459 : Int32)) + ((jushr (x0 - ((jushr x0 (1 : Int32)) &&& (1431655765 : Int32))) (2 : Int32)) &&& (858993459 : Int32))) (4 : Int32))) &&& (252645135 : Int32)) (8 : Int32))) (16 : Int32))) &&& (63 : Int32))
abbrev rmJ6_bitCount_0f7a4 : Room := { frames := 0, cells := 0, slots := 0, locals := 0 }
theorem eJ6_bitCount_0f7a4_0 : (Cond.constant RJ6 265 (1431655765) : Cond) ∈ wsJ6_bitCount_0f7a4 := by decide +kernel
theorem eJ6_bitCount_0f7a4_1 : (Cond.constant RJ6 266 (858993459) : Cond) ∈ wsJ6_bitCount_0f7a4 := by decide +kernel
theorem eJ6_bitCount_0f7a4_2 : (Cond.constant RJ6 267 (252645135) : Cond) ∈ wsJ6_bitCount_0f7a4 := by decide +kernel
set_option maxHeartbeats 4000000 in
set_option maxRecDepth 100000 in
theorem mJ6_bitCount_0f7a4 (l : Launch) (dC : Nat → ClassId) (dI : Nat → Nat → Nat) (cyI cyC cyZ : ClassId) (tF tE : Nat) (x0 : Int32) (T : Int32) (hT : fJ6_bitCount_0f7a4 x0 = T) : Met l yJ6_bitCount_0f7a4 wsJ6_bitCount_0f7a4 rmJ6_bitCount_0f7a4 (va_Pc [.int x0] (fun U => va_P (dC, dI) vwCl [] U.heap ∧ zE (fun _ => False) dC dI cyI cyC cyZ tF tE U U.heap)) (vp_Si (fun r => r = T)) 0 0 (fun _ => False) := by
  rw [fJ6_bitCount_0f7a4] at hT
  refine z_piF (cc := cJ6_bitCount_0f7a4) (maxL := 1) (post := fun r => r = T) (by decide +kernel) rfl (Nat.le_of_ble_eq_true rfl) ?_
  intro p e s m below meth c Q hx hb hml hown hts hB hret ls hl
  obtain ⟨hP, hE⟩ := hB
  have hown : s.vm.findClass RJ6 = some m.cls := hown
  have hS : va_S (fun _ => False) s.heap s.heap [] := va_S.rf
  have hl : lv_has ls 1 [(0, .int x0)] := hl
  refine lv_iload_n hx hb dJ6_bitCount_0f7a4_0 rfl (lv_at hl 0 rfl) ?_
  refine lv_iload_n hx hb dJ6_bitCount_0f7a4_1 rfl (lv_at hl 0 rfl) ?_
  refine lv_iconst (v := (1 : Int32)) hx hb dJ6_bitCount_0f7a4_2 (by decide) ?_
  refine lv_iushr hx hb dJ6_bitCount_0f7a4_3 rfl ?_
  refine lv_topi (fun v_1 ev_1 => ?_)
  obtain rfl : v_1 = (jushr x0 (1 : Int32)) := ev_1
  refine lv_ldcw (own := RJ6) (v := (1431655765 : Int32)) hx hb hown (hts _ eJ6_bitCount_0f7a4_0) dJ6_bitCount_0f7a4_4 ?_
  refine lv_iand hx hb dJ6_bitCount_0f7a4_7 ?_
  refine lv_isub hx hb dJ6_bitCount_0f7a4_8 ?_
  refine lv_istore_n (lv' := [(0, .int (x0 - ((jushr x0 (1 : Int32)) &&& (1431655765 : Int32))))]) hx hb dJ6_bitCount_0f7a4_9 rfl hl (by decide) rfl (fun ls hl => ?_)
  refine lv_iload_n hx hb dJ6_bitCount_0f7a4_10 rfl (lv_at hl 0 rfl) ?_
  refine lv_ldcw (own := RJ6) (v := (858993459 : Int32)) hx hb hown (hts _ eJ6_bitCount_0f7a4_1) dJ6_bitCount_0f7a4_11 ?_
  refine lv_iand hx hb dJ6_bitCount_0f7a4_14 ?_
  refine lv_iload_n hx hb dJ6_bitCount_0f7a4_15 rfl (lv_at hl 0 rfl) ?_
  refine lv_iconst (v := (2 : Int32)) hx hb dJ6_bitCount_0f7a4_16 (by decide) ?_
  refine lv_iushr hx hb dJ6_bitCount_0f7a4_17 rfl ?_
  refine lv_topi (fun v_2 ev_2 => ?_)
  obtain rfl : v_2 = (jushr (x0 - ((jushr x0 (1 : Int32)) &&& (1431655765 : Int32))) (2 : Int32)) := ev_2
  refine lv_ldcw (own := RJ6) (v := (858993459 : Int32)) hx hb hown (hts _ eJ6_bitCount_0f7a4_1) dJ6_bitCount_0f7a4_18 ?_
  refine lv_iand hx hb dJ6_bitCount_0f7a4_21 ?_
  refine lv_iadd hx hb dJ6_bitCount_0f7a4_22 ?_
  refine lv_istore_n (lv' := [(0, .int (((x0 - ((jushr x0 (1 : Int32)) &&& (1431655765 : Int32))) &&& (858993459 : Int32)) + ((jushr (x0 - ((jushr x0 (1 : Int32)) &&& (1431655765 : Int32))) (2 : Int32)) &&& (858993459 : Int32))))]) hx hb dJ6_bitCount_0f7a4_23 rfl hl (by decide) rfl (fun ls hl => ?_)
  refine lv_iload_n hx hb dJ6_bitCount_0f7a4_24 rfl (lv_at hl 0 rfl) ?_
  refine lv_iload_n hx hb dJ6_bitCount_0f7a4_25 rfl (lv_at hl 0 rfl) ?_
  refine lv_iconst (v := (4 : Int32)) hx hb dJ6_bitCount_0f7a4_26 (by decide) ?_
  refine lv_iushr hx hb dJ6_bitCount_0f7a4_27 rfl ?_
  refine lv_topi (fun v_3 ev_3 => ?_)
  obtain rfl : v_3 = (jushr (((x0 - ((jushr x0 (1 : Int32)) &&& (1431655765 : Int32))) &&& (858993459 : Int32)) + ((jushr (x0 - ((jushr x0 (1 : Int32)) &&& (1431655765 : Int32))) (2 : Int32)) &&& (858993459 : Int32))) (4 : Int32)) := ev_3
  refine lv_iadd hx hb dJ6_bitCount_0f7a4_28 ?_
  refine lv_ldcw (own := RJ6) (v := (252645135 : Int32)) hx hb hown (hts _ eJ6_bitCount_0f7a4_2) dJ6_bitCount_0f7a4_29 ?_
  refine lv_iand hx hb dJ6_bitCount_0f7a4_32 ?_
  refine lv_istore_n (lv' := [(0, .int (((((x0 - ((jushr x0 (1 : Int32)) &&& (1431655765 : Int32))) &&& (858993459 : Int32)) + ((jushr (x0 - ((jushr x0 (1 : Int32)) &&& (1431655765 : Int32))) (2 : Int32)) &&& (858993459 : Int32))) + (jushr (((x0 - ((jushr x0 (1 : Int32)) &&& (1431655765 : Int32))) &&& (858993459 : Int32)) + ((jushr (x0 - ((jushr x0 (1 : Int32)) &&& (1431655765 : Int32))) (2 : Int32)) &&& (858993459 : Int32))) (4 : Int32))) &&& (252645135 : Int32)))]) hx hb dJ6_bitCount_0f7a4_33 rfl hl (by decide) rfl (fun ls hl => ?_)
  refine lv_iload_n hx hb dJ6_bitCount_0f7a4_34 rfl (lv_at hl 0 rfl) ?_
  refine lv_iload_n hx hb dJ6_bitCount_0f7a4_35 rfl (lv_at hl 0 rfl) ?_
  refine lv_bipush (v := (8 : Int32)) hx hb dJ6_bitCount_0f7a4_36 (by decide) ?_
  refine lv_iushr hx hb dJ6_bitCount_0f7a4_38 rfl ?_
  refine lv_topi (fun v_4 ev_4 => ?_)
  obtain rfl : v_4 = (jushr (((((x0 - ((jushr x0 (1 : Int32)) &&& (1431655765 : Int32))) &&& (858993459 : Int32)) + ((jushr (x0 - ((jushr x0 (1 : Int32)) &&& (1431655765 : Int32))) (2 : Int32)) &&& (858993459 : Int32))) + (jushr (((x0 - ((jushr x0 (1 : Int32)) &&& (1431655765 : Int32))) &&& (858993459 : Int32)) + ((jushr (x0 - ((jushr x0 (1 : Int32)) &&& (1431655765 : Int32))) (2 : Int32)) &&& (858993459 : Int32))) (4 : Int32))) &&& (252645135 : Int32)) (8 : Int32)) := ev_4
  refine lv_iadd hx hb dJ6_bitCount_0f7a4_39 ?_
  refine lv_istore_n (lv' := [(0, .int ((((((x0 - ((jushr x0 (1 : Int32)) &&& (1431655765 : Int32))) &&& (858993459 : Int32)) + ((jushr (x0 - ((jushr x0 (1 : Int32)) &&& (1431655765 : Int32))) (2 : Int32)) &&& (858993459 : Int32))) + (jushr (((x0 - ((jushr x0 (1 : Int32)) &&& (1431655765 : Int32))) &&& (858993459 : Int32)) + ((jushr (x0 - ((jushr x0 (1 : Int32)) &&& (1431655765 : Int32))) (2 : Int32)) &&& (858993459 : Int32))) (4 : Int32))) &&& (252645135 : Int32)) + (jushr (((((x0 - ((jushr x0 (1 : Int32)) &&& (1431655765 : Int32))) &&& (858993459 : Int32)) + ((jushr (x0 - ((jushr x0 (1 : Int32)) &&& (1431655765 : Int32))) (2 : Int32)) &&& (858993459 : Int32))) + (jushr (((x0 - ((jushr x0 (1 : Int32)) &&& (1431655765 : Int32))) &&& (858993459 : Int32)) + ((jushr (x0 - ((jushr x0 (1 : Int32)) &&& (1431655765 : Int32))) (2 : Int32)) &&& (858993459 : Int32))) (4 : Int32))) &&& (252645135 : Int32)) (8 : Int32))))]) hx hb dJ6_bitCount_0f7a4_40 rfl hl (by decide) rfl (fun ls hl => ?_)
  refine lv_iload_n hx hb dJ6_bitCount_0f7a4_41 rfl (lv_at hl 0 rfl) ?_
  refine lv_iload_n hx hb dJ6_bitCount_0f7a4_42 rfl (lv_at hl 0 rfl) ?_
  refine lv_bipush (v := (16 : Int32)) hx hb dJ6_bitCount_0f7a4_43 (by decide) ?_
  refine lv_iushr hx hb dJ6_bitCount_0f7a4_45 rfl ?_
  refine lv_topi (fun v_5 ev_5 => ?_)
  obtain rfl : v_5 = (jushr ((((((x0 - ((jushr x0 (1 : Int32)) &&& (1431655765 : Int32))) &&& (858993459 : Int32)) + ((jushr (x0 - ((jushr x0 (1 : Int32)) &&& (1431655765 : Int32))) (2 : Int32)) &&& (858993459 : Int32))) + (jushr (((x0 - ((jushr x0 (1 : Int32)) &&& (1431655765 : Int32))) &&& (858993459 : Int32)) + ((jushr (x0 - ((jushr x0 (1 : Int32)) &&& (1431655765 : Int32))) (2 : Int32)) &&& (858993459 : Int32))) (4 : Int32))) &&& (252645135 : Int32)) + (jushr (((((x0 - ((jushr x0 (1 : Int32)) &&& (1431655765 : Int32))) &&& (858993459 : Int32)) + ((jushr (x0 - ((jushr x0 (1 : Int32)) &&& (1431655765 : Int32))) (2 : Int32)) &&& (858993459 : Int32))) + (jushr (((x0 - ((jushr x0 (1 : Int32)) &&& (1431655765 : Int32))) &&& (858993459 : Int32)) + ((jushr (x0 - ((jushr x0 (1 : Int32)) &&& (1431655765 : Int32))) (2 : Int32)) &&& (858993459 : Int32))) (4 : Int32))) &&& (252645135 : Int32)) (8 : Int32))) (16 : Int32)) := ev_5
  refine lv_iadd hx hb dJ6_bitCount_0f7a4_46 ?_
  refine lv_istore_n (lv' := [(0, .int (((((((x0 - ((jushr x0 (1 : Int32)) &&& (1431655765 : Int32))) &&& (858993459 : Int32)) + ((jushr (x0 - ((jushr x0 (1 : Int32)) &&& (1431655765 : Int32))) (2 : Int32)) &&& (858993459 : Int32))) + (jushr (((x0 - ((jushr x0 (1 : Int32)) &&& (1431655765 : Int32))) &&& (858993459 : Int32)) + ((jushr (x0 - ((jushr x0 (1 : Int32)) &&& (1431655765 : Int32))) (2 : Int32)) &&& (858993459 : Int32))) (4 : Int32))) &&& (252645135 : Int32)) + (jushr (((((x0 - ((jushr x0 (1 : Int32)) &&& (1431655765 : Int32))) &&& (858993459 : Int32)) + ((jushr (x0 - ((jushr x0 (1 : Int32)) &&& (1431655765 : Int32))) (2 : Int32)) &&& (858993459 : Int32))) + (jushr (((x0 - ((jushr x0 (1 : Int32)) &&& (1431655765 : Int32))) &&& (858993459 : Int32)) + ((jushr (x0 - ((jushr x0 (1 : Int32)) &&& (1431655765 : Int32))) (2 : Int32)) &&& (858993459 : Int32))) (4 : Int32))) &&& (252645135 : Int32)) (8 : Int32))) + (jushr ((((((x0 - ((jushr x0 (1 : Int32)) &&& (1431655765 : Int32))) &&& (858993459 : Int32)) + ((jushr (x0 - ((jushr x0 (1 : Int32)) &&& (1431655765 : Int32))) (2 : Int32)) &&& (858993459 : Int32))) + (jushr (((x0 - ((jushr x0 (1 : Int32)) &&& (1431655765 : Int32))) &&& (858993459 : Int32)) + ((jushr (x0 - ((jushr x0 (1 : Int32)) &&& (1431655765 : Int32))) (2 : Int32)) &&& (858993459 : Int32))) (4 : Int32))) &&& (252645135 : Int32)) + (jushr (((((x0 - ((jushr x0 (1 : Int32)) &&& (1431655765 : Int32))) &&& (858993459 : Int32)) + ((jushr (x0 - ((jushr x0 (1 : Int32)) &&& (1431655765 : Int32))) (2 : Int32)) &&& (858993459 : Int32))) + (jushr (((x0 - ((jushr x0 (1 : Int32)) &&& (1431655765 : Int32))) &&& (858993459 : Int32)) + ((jushr (x0 - ((jushr x0 (1 : Int32)) &&& (1431655765 : Int32))) (2 : Int32)) &&& (858993459 : Int32))) (4 : Int32))) &&& (252645135 : Int32)) (8 : Int32))) (16 : Int32))))]) hx hb dJ6_bitCount_0f7a4_47 rfl hl (by decide) rfl (fun ls hl => ?_)
  refine lv_iload_n hx hb dJ6_bitCount_0f7a4_48 rfl (lv_at hl 0 rfl) ?_
  refine lv_bipush (v := (63 : Int32)) hx hb dJ6_bitCount_0f7a4_49 (by decide) ?_
  refine lv_iand hx hb dJ6_bitCount_0f7a4_51 ?_
  exact hret _ _ _ dJ6_bitCount_0f7a4_52 hT

def fX4_hasStair (stairs : Int32) (x1 : Int32) : Int32 := (if (fX5_isCell x1) = 0 then (0 : Int32) else (if ((jshr stairs x1) &&& (1 : Int32)) = (1 : Int32) then (1 : Int32) else (0 : Int32)))
abbrev rmX4_hasStair : Room := { frames := 1, cells := 0, slots := 0, locals := 20 }
theorem eX4_hasStair_0 : (Cond.initialized RX5 : Cond) ∈ wsX4_hasStair := by decide +kernel
theorem eX4_hasStair_1 : (Cond.static yX5_isCell : Cond) ∈ wsX4_hasStair := by decide +kernel
theorem eX4_hasStair_2 : ∀ w ∈ u_ws RX4 TX4 4, w ∈ wsX4_hasStair := by decide +kernel
theorem eX4_hasStair_3 : (Cond.fieldLink RX4 22 "LowWater$Shore" "stairs" "I" : Cond) ∈ wsX4_hasStair := by decide +kernel
set_option maxHeartbeats 4000000 in
set_option maxRecDepth 100000 in
theorem mX4_hasStair (l : Launch) (dC : Nat → ClassId) (dI : Nat → Nat → Nat) (cyI cyC cyZ : ClassId) (tF tE : Nat) (a_this : Nat) (a_this_levels : Nat) (a_this_heights : Nat) (heightCount : Int32) (stairs : Int32) (x1 : Int32) (T : Int32) (hT : fX4_hasStair stairs x1 = T) : Met l yX4_hasStair wsX4_hasStair rmX4_hasStair (va_Pc [.ref a_this, .int x1] (fun U => va_P (dC, dI) vwCl [(a_this, .inr (4, [.ref a_this_levels, .ref a_this_heights, .int heightCount, .int stairs]))] U.heap ∧ zE (fun _ => False) dC dI cyI cyC cyZ tF tE U U.heap)) (vp_Si (fun r => r = T ∧ (r = 0 ∨ r = 1))) 0 0 (fun _ => False) := by
  rw [fX4_hasStair] at hT
  refine z_pz (cc := cX4_hasStair) (maxL := 2) (post := fun r => r = T) (by decide) rfl (Nat.le_of_ble_eq_true rfl) ?_
  intro p e s m below meth c Q hx hb hml hown hts hB hret ls hl
  obtain ⟨hP, hE⟩ := hB
  have hown : s.vm.findClass RX4 = some m.cls := hown
  have hS : va_S (fun _ => False) s.heap s.heap [] := va_S.rf
  have hl : lv_has ls 2 [(0, .ref a_this), (1, .int x1)] := hl
  refine lv_iload_n hx hb dX4_hasStair_0 rfl (lv_at hl 1 rfl) ?_
  refine vp_callSi (va_Run.run (va_runSN (As := [.int x1]) (rest := []) ⟨hx, hb, hml, hown, hts⟩ (mX5_isCell l dC dI cyI cyC cyZ tF tE x1 _ rfl) ⟨va_cnB 1 hts gX4_hasStair_X5_isCell_n38 rfl rfl rfl (zN_X4_38 (zE_N hE)) (hts _ eX4_hasStair_0) (by decide +kernel) ⟨(Nat.le_of_ble_eq_true rfl), (Nat.le_of_ble_eq_true rfl)⟩, (hts _ eX4_hasStair_1), trivial⟩ ⟨z_bp, fun U hU hW => ⟨rfl, by rw [hU]; exact hP.sub (ws' := []) [] rfl, hE.to hS (fun _ h => h.elim) hU hW⟩⟩ rfl rfl hl.1 rfl (lv_room (Nat.le_of_ble_eq_true rfl)) dX4_hasStair_1 ⟨Nat.zero_le _, Nat.zero_le _⟩)) (fun r_1 hr_1 => ?_)
  obtain ⟨rfl, hb_1⟩ := hr_1
  have hq_1 := zX5_isCell x1 
  refine lv_if_eq (tgt := 23) hx hb dX4_hasStair_4 (by decide) (fun c_2 => ?_) (fun c_2 => ?_)
  · have hT := (if_pos c_2).symm.trans hT
    refine lv_iconst (v := (0 : Int32)) hx hb dX4_hasStair_23 (by decide) ?_
    exact hret _ _ _ (Or.inl rfl) dX4_hasStair_24 hT
  · have hT := (if_neg c_2).symm.trans hT
    refine lv_aload_n hx hb dX4_hasStair_7 rfl (lv_at hl 0 rfl) ?_
    refine va_get (D := (dC, dI)) (ci := 4) (v := .int stairs) (C := RX4) (T := TX4) (N := 4) hx hb hts eX4_hasStair_2 hown hE.1 hP 0 rfl rfl 3 (by decide) (hts _ eX4_hasStair_3) (fun _ h9 => h9) rfl dX4_hasStair_8 ?_
    refine lv_iload_n hx hb dX4_hasStair_11 rfl (lv_at hl 1 rfl) ?_
    refine lv_ishr hx hb dX4_hasStair_12 ?_
    refine lv_topi (fun v_3 ev_3 => ?_)
    obtain rfl : v_3 = (jshr stairs x1) := ev_3
    refine lv_iconst (v := (1 : Int32)) hx hb dX4_hasStair_13 (by decide) ?_
    refine lv_iand hx hb dX4_hasStair_14 ?_
    refine lv_iconst (v := (1 : Int32)) hx hb dX4_hasStair_15 (by decide) ?_
    refine lv_icmp_ne (tgt := 23) hx hb dX4_hasStair_16 (by decide) (fun c_4 => ?_) (fun c_4 => ?_)
    · have hT := (if_neg c_4).symm.trans hT
      refine lv_iconst (v := (0 : Int32)) hx hb dX4_hasStair_23 (by decide) ?_
      exact hret _ _ _ (Or.inl rfl) dX4_hasStair_24 hT
    · have hT := (if_pos c_4).symm.trans hT
      refine lv_iconst (v := (1 : Int32)) hx hb dX4_hasStair_19 (by decide) ?_
      refine lv_goto (tgt := 24) hx hb dX4_hasStair_20 (by decide) ?_
      exact hret _ _ _ (Or.inr rfl) dX4_hasStair_24 hT

def fX4_stairCount (stairs : Int32) : Int32 := (fJ6_bitCount_0f7a4 stairs)
abbrev rmX4_stairCount : Room := { frames := 1, cells := 0, slots := 0, locals := 20 }
theorem eX4_stairCount_0 : ∀ w ∈ u_ws RX4 TX4 4, w ∈ wsX4_stairCount := by decide +kernel
theorem eX4_stairCount_1 : (Cond.fieldLink RX4 22 "LowWater$Shore" "stairs" "I" : Cond) ∈ wsX4_stairCount := by decide +kernel
set_option maxHeartbeats 4000000 in
set_option maxRecDepth 100000 in
theorem mX4_stairCount (l : Launch) (dC : Nat → ClassId) (dI : Nat → Nat → Nat) (cyI cyC cyZ : ClassId) (tF tE : Nat) (a_this : Nat) (a_this_levels : Nat) (a_this_heights : Nat) (heightCount : Int32) (stairs : Int32) (T : Int32) (hT : fX4_stairCount stairs = T) : Met l yX4_stairCount wsX4_stairCount rmX4_stairCount (va_Pc [.ref a_this] (fun U => va_P (dC, dI) vwCl [(a_this, .inr (4, [.ref a_this_levels, .ref a_this_heights, .int heightCount, .int stairs]))] U.heap ∧ zE (fun _ => False) dC dI cyI cyC cyZ tF tE U U.heap)) (vp_Si (fun r => r = T)) 0 0 (fun _ => False) := by
  rw [fX4_stairCount] at hT
  refine z_pi (cc := cX4_stairCount) (maxL := 1) (post := fun r => r = T) (by decide) rfl (Nat.le_of_ble_eq_true rfl) ?_
  intro p e s m below meth c Q hx hb hml hown hts hB hret ls hl
  obtain ⟨hP, hE⟩ := hB
  have hown : s.vm.findClass RX4 = some m.cls := hown
  have hS : va_S (fun _ => False) s.heap s.heap [] := va_S.rf
  have hl : lv_has ls 1 [(0, .ref a_this)] := hl
  refine lv_aload_n hx hb dX4_stairCount_0 rfl (lv_at hl 0 rfl) ?_
  refine va_get (D := (dC, dI)) (ci := 4) (v := .int stairs) (C := RX4) (T := TX4) (N := 4) hx hb hts eX4_stairCount_0 hown hE.1 hP 0 rfl rfl 3 (by decide) (hts _ eX4_stairCount_1) (fun _ h9 => h9) rfl dX4_stairCount_1 ?_
  refine vp_callSi (va_Run.run (va_runS (As := [.int stairs]) (rest := []) ⟨hx, hb, hml, hown, hts⟩ (mJ6_bitCount_0f7a4 l dC dI cyI cyC cyZ tF tE stairs _ rfl) (va_cwS 1 hts gX4_stairCount_J6_bitCount_0f7a4 rfl rfl rfl (by decide +kernel) ⟨(Nat.le_of_ble_eq_true rfl), (Nat.le_of_ble_eq_true rfl)⟩) ⟨z_bp, fun U hU hW => ⟨rfl, by rw [hU]; exact hP.sub (ws' := []) [] rfl, hE.to hS (fun _ h => h.elim) hU hW⟩⟩ rfl rfl hl.1 rfl (lv_room (Nat.le_of_ble_eq_true rfl)) dX4_stairCount_4 ⟨Nat.zero_le _, Nat.zero_le _⟩)) (fun r_1 hr_1 => ?_)
  obtain rfl := hr_1
  exact hret _ _ _ dX4_stairCount_7 hT

def fX4_heightIn (heightCount : Int32) (heights : Nat → Int32) (x1 : Int32) : Int32 := (if 0 < heightCount then (heights (fJ9_floorMod_7cf53 x1 heightCount).toNatClampNeg) else (0 : Int32))
abbrev rmX4_heightIn : Room := { frames := 1, cells := 0, slots := 0, locals := 22 }
theorem eX4_heightIn_0 : ∀ w ∈ u_ws RX4 TX4 4, w ∈ wsX4_heightIn := by decide +kernel
theorem eX4_heightIn_1 : (Cond.fieldLink RX4 18 "LowWater$Shore" "heightCount" "I" : Cond) ∈ wsX4_heightIn := by decide +kernel
theorem eX4_heightIn_2 : (Cond.fieldLink RX4 15 "LowWater$Shore" "heights" "[I" : Cond) ∈ wsX4_heightIn := by decide +kernel
set_option maxHeartbeats 4000000 in
set_option maxRecDepth 100000 in
theorem mX4_heightIn (l : Launch) (dC : Nat → ClassId) (dI : Nat → Nat → Nat) (cyI cyC cyZ : ClassId) (tF tE : Nat) (a_this : Nat) (a_this_levels : Nat) (a_this_heights : Nat) (heightCount : Int32) (stairs : Int32) (heights : Nat → Int32) (x1 : Int32) (h0 : heightCount ≤ 12) (T : Int32) (hT : fX4_heightIn heightCount heights x1 = T) : Met l yX4_heightIn wsX4_heightIn rmX4_heightIn (va_Pc [.ref a_this, .int x1] (fun U => va_P (dC, dI) vwCl [(a_this, .inr (4, [.ref a_this_levels, .ref a_this_heights, .int heightCount, .int stairs])), (a_this_heights, .inl (cyI, 12, .inl heights))] U.heap ∧ zE (fun _ => False) dC dI cyI cyC cyZ tF tE U U.heap)) (vp_Si (fun r => r = T)) 0 0 (fun _ => False) := by
  rw [fX4_heightIn] at hT
  refine z_pi (cc := cX4_heightIn) (maxL := 2) (post := fun r => r = T) (by decide) rfl (Nat.le_of_ble_eq_true rfl) ?_
  intro p e s m below meth c Q hx hb hml hown hts hB hret ls hl
  obtain ⟨hP, hE⟩ := hB
  have hown : s.vm.findClass RX4 = some m.cls := hown
  have hS : va_S (fun _ => False) s.heap s.heap [] := va_S.rf
  have hl : lv_has ls 2 [(0, .ref a_this), (1, .int x1)] := hl
  refine lv_aload_n hx hb dX4_heightIn_0 rfl (lv_at hl 0 rfl) ?_
  refine va_get (D := (dC, dI)) (ci := 4) (v := .int heightCount) (C := RX4) (T := TX4) (N := 4) hx hb hts eX4_heightIn_0 hown hE.1 hP 0 rfl rfl 2 (by decide) (hts _ eX4_heightIn_1) (fun _ h9 => h9) rfl dX4_heightIn_1 ?_
  refine lv_if_gt (tgt := 9) hx hb dX4_heightIn_4 (by decide) (fun c_1 => ?_) (fun c_1 => ?_)
  · have hT := (if_pos c_1).symm.trans hT
    refine lv_aload_n hx hb dX4_heightIn_9 rfl (lv_at hl 0 rfl) ?_
    refine va_get (D := (dC, dI)) (ci := 4) (v := .ref a_this_heights) (C := RX4) (T := TX4) (N := 4) hx hb hts eX4_heightIn_0 hown hE.1 hP 0 rfl rfl 1 (by decide) (hts _ eX4_heightIn_2) (fun _ h9 => h9) rfl dX4_heightIn_10 ?_
    refine lv_iload_n hx hb dX4_heightIn_13 rfl (lv_at hl 1 rfl) ?_
    refine lv_aload_n hx hb dX4_heightIn_14 rfl (lv_at hl 0 rfl) ?_
    refine va_get (D := (dC, dI)) (ci := 4) (v := .int heightCount) (C := RX4) (T := TX4) (N := 4) hx hb hts eX4_heightIn_0 hown hE.1 hP 0 rfl rfl 2 (by decide) (hts _ eX4_heightIn_1) (fun _ h9 => h9) rfl dX4_heightIn_15 ?_
    refine vp_callSi (va_Run.run (va_runS (As := [.int x1, .int heightCount]) (rest := [.ref a_this_heights]) ⟨hx, hb, hml, hown, hts⟩ (mJ9_floorMod_7cf53 l dC dI cyI cyC cyZ tF tE x1 heightCount (show ¬ heightCount = 0 by simp only [vp_in_iff, ← Int32.toInt_inj, Int32.le_iff_toInt_le, Int32.lt_iff_toInt_lt, Int32.toInt_add, Int32.toInt_sub, Int32.toInt_mul, Int.bmod, Int32.reduceToInt, Nat.reducePow, Int32.toInt_toInt64, Int64.reduceToInt] at h0 c_1 ⊢ <;> omega) _ rfl) (va_cwS 2 hts gX4_heightIn_J9_floorMod_7cf53 rfl rfl rfl (by decide +kernel) ⟨(Nat.le_of_ble_eq_true rfl), (Nat.le_of_ble_eq_true rfl)⟩) ⟨z_bp, fun U hU hW => ⟨rfl, by rw [hU]; exact hP.sub (ws' := []) [] rfl, hE.to hS (fun _ h => h.elim) hU hW⟩⟩ rfl rfl hl.1 rfl (lv_room (Nat.le_of_ble_eq_true rfl)) dX4_heightIn_18 ⟨Nat.zero_le _, Nat.zero_le _⟩)) (fun r_2 hr_2 => ?_)
    obtain rfl := hr_2
    have hq_2 := zJ9_floorMod_7cf53 x1 heightCount 
    refine va_iald hx hb hE.1 hP 1 0 rfl rfl (show vp_in (fJ9_floorMod_7cf53 x1 heightCount) 12 by simp only [vp_in_iff, ← Int32.toInt_inj, Int32.le_iff_toInt_le, Int32.lt_iff_toInt_lt, Int32.toInt_add, Int32.toInt_sub, Int32.toInt_mul, Int.bmod, Int32.reduceToInt, Nat.reducePow, Int32.toInt_toInt64, Int64.reduceToInt] at h0 c_1 hq_2 ⊢ <;> omega) dX4_heightIn_21 ?_
    exact hret _ _ _ dX4_heightIn_22 hT
  · have hT := (if_neg c_1).symm.trans hT
    refine lv_iconst (v := (0 : Int32)) hx hb dX4_heightIn_7 (by decide) ?_
    exact hret _ _ _ dX4_heightIn_8 hT

def fX4_levelUnder_j29 (levels : Nat → Int32) (x1 : Int32) (y3_j29 : Int32) : Int32 := (jmax (0 : Int32) ((levels x1.toNatClampNeg) - y3_j29))
def fX4_levelUnder (levels : Nat → Int32) (x1 : Int32) (x2 : Int32) : Int32 := (if x2 = x1 then (fX4_levelUnder_j29 levels x1 (2 : Int32)) else (if x2 = (-1 : Int32) then (fX4_levelUnder_j29 levels x1 (0 : Int32)) else (if (jabs (x2 - x1)) = (1 : Int32) then (fX4_levelUnder_j29 levels x1 (1 : Int32)) else (fX4_levelUnder_j29 levels x1 (0 : Int32)))))
abbrev rmX4_levelUnder : Room := { frames := 1, cells := 0, slots := 0, locals := 21 }
theorem eX4_levelUnder_0 : ∀ w ∈ u_ws RX4 TX4 4, w ∈ wsX4_levelUnder := by decide +kernel
theorem eX4_levelUnder_1 : (Cond.fieldLink RX4 9 "LowWater$Shore" "levels" "[I" : Cond) ∈ wsX4_levelUnder := by decide +kernel
theorem eX4_levelUnder_2 : (Cond.methodLink RX4 63 Lib.Math.max.name : Cond) ∈ wsX4_levelUnder := by decide +kernel
theorem eX4_levelUnder_3 : (Cond.static Lib.Math.max.name : Cond) ∈ wsX4_levelUnder := by decide +kernel
theorem eX4_levelUnder_4 : (Cond.initialized "java/lang/Math" : Cond) ∈ wsX4_levelUnder := by decide +kernel
theorem eX4_levelUnder_5 : (Cond.code Lib.Math.max.name Lib.Math.max.code 2 (some .int) : Cond) ∈ wsX4_levelUnder := by decide +kernel
theorem eX4_levelUnder_6 : (Cond.methodLink RX4 60 Lib.Math.abs.name : Cond) ∈ wsX4_levelUnder := by decide +kernel
theorem eX4_levelUnder_7 : (Cond.static Lib.Math.abs.name : Cond) ∈ wsX4_levelUnder := by decide +kernel
theorem eX4_levelUnder_8 : (Cond.code Lib.Math.abs.name Lib.Math.abs.code 1 (some .int) : Cond) ∈ wsX4_levelUnder := by decide +kernel
set_option maxHeartbeats 4000000 in
set_option maxRecDepth 100000 in
theorem mX4_levelUnder (l : Launch) (dC : Nat → ClassId) (dI : Nat → Nat → Nat) (cyI cyC cyZ : ClassId) (tF tE : Nat) (a_this : Nat) (a_this_levels : Nat) (a_this_heights : Nat) (heightCount : Int32) (stairs : Int32) (levels : Nat → Int32) (x1 : Int32) (x2 : Int32) (h0 : (0 : Int32) ≤ x1) (h1 : x1 < 8) (T : Int32) (hT : fX4_levelUnder levels x1 x2 = T) : Met l yX4_levelUnder wsX4_levelUnder rmX4_levelUnder (va_Pc [.ref a_this, .int x1, .int x2] (fun U => va_P (dC, dI) vwCl [(a_this, .inr (4, [.ref a_this_levels, .ref a_this_heights, .int heightCount, .int stairs])), (a_this_levels, .inl (cyI, 8, .inl levels))] U.heap ∧ zE (fun _ => False) dC dI cyI cyC cyZ tF tE U U.heap)) (vp_Si (fun r => r = T)) 0 0 (fun _ => False) := by
  rw [fX4_levelUnder] at hT
  refine z_pi (cc := cX4_levelUnder) (maxL := 4) (post := fun r => r = T) (by decide) rfl (Nat.le_of_ble_eq_true rfl) ?_
  intro p e s m below meth c Q hx hb hml hown hts hB hret ls hl
  obtain ⟨hP, hE⟩ := hB
  have hown : s.vm.findClass RX4 = some m.cls := hown
  have hS : va_S (fun _ => False) s.heap s.heap [] := va_S.rf
  have hl : lv_has ls 4 [(0, .ref a_this), (1, .int x1), (2, .int x2)] := hl
  refine lv_iconst (v := (0 : Int32)) hx hb dX4_levelUnder_0 (by decide) ?_
  refine lv_istore_n (lv' := [(3, .int (0 : Int32)), (0, .ref a_this), (1, .int x1), (2, .int x2)]) hx hb dX4_levelUnder_1 rfl hl (by decide) rfl (fun ls hl => ?_)
  refine lv_iload_n hx hb dX4_levelUnder_2 rfl (lv_at hl 3 rfl) ?_
  refine lv_iload_n hx hb dX4_levelUnder_3 rfl (lv_at hl 2 rfl) ?_
  have Jj29 : ∀ (y3_j29 : Int32), ∀ (ls : Array Slot), lv_has ls 4 [(3, .int y3_j29), (0, .ref a_this), (1, .int x1)] → (fX4_levelUnder_j29 levels x1 y3_j29) = T → W p l e (headSpec wsX4_levelUnder rmX4_levelUnder).room s m ([.ref a_this, .int x1, .int x2] : List Value).toArray below meth c s.heap [] 0 0 Q (F0 m 29 ls []) := by
    intro y3_j29 ls hl hT
    rw [fX4_levelUnder_j29] at hT
    refine lv_iconst (v := (0 : Int32)) hx hb dX4_levelUnder_29 (by decide) ?_
    refine lv_aload_n hx hb dX4_levelUnder_30 rfl (lv_at hl 1 rfl) ?_
    refine va_get (D := (dC, dI)) (ci := 4) (v := .ref a_this_levels) (C := RX4) (T := TX4) (N := 4) hx hb hts eX4_levelUnder_0 hown hE.1 hP 0 rfl rfl 0 (by decide) (hts _ eX4_levelUnder_1) (fun _ h9 => h9) rfl dX4_levelUnder_31 ?_
    refine lv_iload_n hx hb dX4_levelUnder_34 rfl (lv_at hl 2 rfl) ?_
    refine va_iald hx hb hE.1 hP 1 0 rfl rfl (show vp_in x1 8 by simp only [vp_in_iff, ← Int32.toInt_inj, Int32.le_iff_toInt_le, Int32.lt_iff_toInt_lt, Int32.toInt_add, Int32.toInt_sub, Int32.toInt_mul, Int.bmod, Int32.reduceToInt, Nat.reducePow, Int32.toInt_toInt64, Int64.reduceToInt] at h0 h1 ⊢ <;> omega) dX4_levelUnder_35 ?_
    refine lv_iload_n hx hb dX4_levelUnder_36 rfl (lv_at hl 0 rfl) ?_
    refine lv_isub hx hb dX4_levelUnder_37 ?_
    refine va_mmax hx hb (hml.trans hl.1.symm) hown (hts _ eX4_levelUnder_2) (hts _ eX4_levelUnder_3) (hts _ eX4_levelUnder_4) (hts _ eX4_levelUnder_5) (Nat.le_of_ble_eq_true rfl) (Nat.le_of_ble_eq_true rfl) (Nat.zero_le _) (Nat.zero_le _) dX4_levelUnder_38 ?_
    refine lv_topi (fun v_1 ev_1 => ?_)
    obtain rfl : v_1 = (jmax (0 : Int32) ((levels x1.toNatClampNeg) - y3_j29)) := ev_1
    exact hret _ _ _ dX4_levelUnder_41 hT
  refine lv_icmp_ne (tgt := 12) hx hb dX4_levelUnder_4 (by decide) (fun c_2 => ?_) (fun c_2 => ?_)
  · have hT := (if_neg c_2).symm.trans hT
    refine lv_iload_n hx hb dX4_levelUnder_12 rfl (lv_at hl 3 rfl) ?_
    refine lv_iconst (v := (-1 : Int32)) hx hb dX4_levelUnder_13 (by decide) ?_
    refine lv_icmp_eq (tgt := 29) hx hb dX4_levelUnder_14 (by decide) (fun c_3 => ?_) (fun c_3 => ?_)
    · have hT := (if_pos c_3).symm.trans hT
      exact Jj29 (0 : Int32) ls (lv_sub hl [0, 1, 2] rfl) hT
    · have hT := (if_neg c_3).symm.trans hT
      refine lv_iload_n hx hb dX4_levelUnder_17 rfl (lv_at hl 3 rfl) ?_
      refine lv_iload_n hx hb dX4_levelUnder_18 rfl (lv_at hl 2 rfl) ?_
      refine lv_isub hx hb dX4_levelUnder_19 ?_
      refine va_mabs hx hb (hml.trans hl.1.symm) hown (hts _ eX4_levelUnder_6) (hts _ eX4_levelUnder_7) (hts _ eX4_levelUnder_4) (hts _ eX4_levelUnder_8) (Nat.le_of_ble_eq_true rfl) (Nat.le_of_ble_eq_true rfl) (Nat.zero_le _) (Nat.zero_le _) dX4_levelUnder_20 ?_
      refine lv_topi (fun v_4 ev_4 => ?_)
      obtain rfl : v_4 = (jabs (x2 - x1)) := ev_4
      refine lv_iconst (v := (1 : Int32)) hx hb dX4_levelUnder_23 (by decide) ?_
      refine lv_icmp_ne (tgt := 29) hx hb dX4_levelUnder_24 (by decide) (fun c_5 => ?_) (fun c_5 => ?_)
      · have hT := (if_neg c_5).symm.trans hT
        exact Jj29 (0 : Int32) ls (lv_sub hl [0, 1, 2] rfl) hT
      · have hT := (if_pos c_5).symm.trans hT
        refine lv_iconst (v := (1 : Int32)) hx hb dX4_levelUnder_27 (by decide) ?_
        refine lv_istore_n (lv' := [(3, .int (1 : Int32)), (0, .ref a_this), (1, .int x1), (2, .int x2)]) hx hb dX4_levelUnder_28 rfl hl (by decide) rfl (fun ls hl => ?_)
        exact Jj29 (1 : Int32) ls (lv_sub hl [0, 1, 2] rfl) hT
  · have hT := (if_pos c_2).symm.trans hT
    refine lv_iconst (v := (2 : Int32)) hx hb dX4_levelUnder_7 (by decide) ?_
    refine lv_istore_n (lv' := [(3, .int (2 : Int32)), (0, .ref a_this), (1, .int x1), (2, .int x2)]) hx hb dX4_levelUnder_8 rfl hl (by decide) rfl (fun ls hl => ?_)
    refine lv_goto (tgt := 29) hx hb dX4_levelUnder_9 (by decide) ?_
    exact Jj29 (2 : Int32) ls (lv_sub hl [0, 1, 2] rfl) hT

def fX4_isDry (heightCount : Int32) (levels : Nat → Int32) (heights : Nat → Int32) (x1 : Int32) (x2 : Int32) (x3 : Int32) : Int32 := (if (fX5_isCell x1) = 0 then (0 : Int32) else (if (fX4_levelUnder levels x1 x3) < (fX4_heightIn heightCount heights x2) then (0 : Int32) else (1 : Int32)))
abbrev rmX4_isDry : Room := { frames := 2, cells := 0, slots := 0, locals := 44 }
theorem eX4_isDry_0 : (Cond.initialized RX5 : Cond) ∈ wsX4_isDry := by decide +kernel
theorem eX4_isDry_1 : (Cond.static yX5_isCell : Cond) ∈ wsX4_isDry := by decide +kernel
set_option maxHeartbeats 4000000 in
set_option maxRecDepth 100000 in
theorem mX4_isDry (l : Launch) (dC : Nat → ClassId) (dI : Nat → Nat → Nat) (cyI cyC cyZ : ClassId) (tF tE : Nat) (a_this : Nat) (a_this_levels : Nat) (a_this_heights : Nat) (heightCount : Int32) (stairs : Int32) (levels : Nat → Int32) (heights : Nat → Int32) (x1 : Int32) (x2 : Int32) (x3 : Int32) (h0 : heightCount ≤ 12) (T : Int32) (hT : fX4_isDry heightCount levels heights x1 x2 x3 = T) : Met l yX4_isDry wsX4_isDry rmX4_isDry (va_Pc [.ref a_this, .int x1, .int x2, .int x3] (fun U => va_P (dC, dI) vwCl [(a_this, .inr (4, [.ref a_this_levels, .ref a_this_heights, .int heightCount, .int stairs])), (a_this_levels, .inl (cyI, 8, .inl levels)), (a_this_heights, .inl (cyI, 12, .inl heights))] U.heap ∧ zE (fun _ => False) dC dI cyI cyC cyZ tF tE U U.heap)) (vp_Si (fun r => r = T ∧ (r = 0 ∨ r = 1))) 0 0 (fun _ => False) := by
  rw [fX4_isDry] at hT
  refine z_pz (cc := cX4_isDry) (maxL := 4) (post := fun r => r = T) (by decide) rfl (Nat.le_of_ble_eq_true rfl) ?_
  intro p e s m below meth c Q hx hb hml hown hts hB hret ls hl
  obtain ⟨hP, hE⟩ := hB
  have hown : s.vm.findClass RX4 = some m.cls := hown
  have hS : va_S (fun _ => False) s.heap s.heap [] := va_S.rf
  have hl : lv_has ls 4 [(0, .ref a_this), (1, .int x1), (2, .int x2), (3, .int x3)] := hl
  refine lv_iload_n hx hb dX4_isDry_0 rfl (lv_at hl 1 rfl) ?_
  refine vp_callSi (va_Run.run (va_runSN (As := [.int x1]) (rest := []) ⟨hx, hb, hml, hown, hts⟩ (mX5_isCell l dC dI cyI cyC cyZ tF tE x1 _ rfl) ⟨va_cnB 1 hts gX4_isDry_X5_isCell_n38 rfl rfl rfl (zN_X4_38 (zE_N hE)) (hts _ eX4_isDry_0) (by decide +kernel) ⟨(Nat.le_of_ble_eq_true rfl), (Nat.le_of_ble_eq_true rfl)⟩, (hts _ eX4_isDry_1), trivial⟩ ⟨z_bp, fun U hU hW => ⟨rfl, by rw [hU]; exact hP.sub (ws' := []) [] rfl, hE.to hS (fun _ h => h.elim) hU hW⟩⟩ rfl rfl hl.1 rfl (lv_room (Nat.le_of_ble_eq_true rfl)) dX4_isDry_1 ⟨Nat.zero_le _, Nat.zero_le _⟩)) (fun r_1 hr_1 => ?_)
  obtain ⟨rfl, hb_1⟩ := hr_1
  have hq_1 := zX5_isCell x1 
  refine lv_if_eq (tgt := 25) hx hb dX4_isDry_4 (by decide) (fun c_2 => ?_) (fun c_2 => ?_)
  · have hT := (if_pos c_2).symm.trans hT
    refine lv_iconst (v := (0 : Int32)) hx hb dX4_isDry_25 (by decide) ?_
    exact hret _ _ _ (Or.inl rfl) dX4_isDry_26 hT
  · have hT := (if_neg c_2).symm.trans hT
    refine lv_aload_n hx hb dX4_isDry_7 rfl (lv_at hl 0 rfl) ?_
    refine lv_iload_n hx hb dX4_isDry_8 rfl (lv_at hl 2 rfl) ?_
    refine vp_callSi (va_Run.run (va_runV (As := [.int x2]) (rest := []) ⟨hx, hb, hml, hown, hts⟩ (mX4_heightIn l dC dI cyI cyC cyZ tF tE a_this a_this_levels a_this_heights heightCount stairs heights x2 (show heightCount ≤ 12 by simp only [vp_in_iff, ← Int32.toInt_inj, Int32.le_iff_toInt_le, Int32.lt_iff_toInt_lt, Int32.toInt_add, Int32.toInt_sub, Int32.toInt_mul, Int.bmod, Int32.reduceToInt, Nat.reducePow, Int32.toInt_toInt64, Int64.reduceToInt] at h0 hb_1 hq_1 c_2 ⊢ <;> omega) _ rfl) (cwV 1 hts gX4_isDry_X4_heightIn rfl rfl rfl (by decide +kernel) ⟨(Nat.le_of_ble_eq_true rfl), (Nat.le_of_ble_eq_true rfl)⟩) ⟨z_bp, va_recv hE.1 hP (ci := 4) (q0 := 0) rfl rfl, fun U hU hW => ⟨rfl, by rw [hU]; exact hP.sub (ws' := [(a_this, .inr (4, [.ref a_this_levels, .ref a_this_heights, .int heightCount, .int stairs])), (a_this_heights, .inl (cyI, 12, .inl heights))]) [0, 2] rfl, hE.to hS (fun _ h => h.elim) hU hW⟩⟩ rfl rfl hl.1 rfl (lv_room (Nat.le_of_ble_eq_true rfl)) dX4_isDry_9 ⟨Nat.zero_le _, Nat.zero_le _⟩)) (fun r_3 hr_3 => ?_)
    obtain rfl := hr_3
    refine lv_aload_n hx hb dX4_isDry_12 rfl (lv_at hl 0 rfl) ?_
    refine lv_iload_n hx hb dX4_isDry_13 rfl (lv_at hl 1 rfl) ?_
    refine lv_iload_n hx hb dX4_isDry_14 rfl (lv_at hl 3 rfl) ?_
    refine vp_callSi (va_Run.run (va_runV (As := [.int x1, .int x3]) (rest := [.int (fX4_heightIn heightCount heights x2)]) ⟨hx, hb, hml, hown, hts⟩ (mX4_levelUnder l dC dI cyI cyC cyZ tF tE a_this a_this_levels a_this_heights heightCount stairs levels x1 x3 (show (0 : Int32) ≤ x1 by simp only [vp_in_iff, ← Int32.toInt_inj, Int32.le_iff_toInt_le, Int32.lt_iff_toInt_lt, Int32.toInt_add, Int32.toInt_sub, Int32.toInt_mul, Int.bmod, Int32.reduceToInt, Nat.reducePow, Int32.toInt_toInt64, Int64.reduceToInt] at h0 hb_1 hq_1 c_2 ⊢ <;> omega) (show x1 < 8 by simp only [vp_in_iff, ← Int32.toInt_inj, Int32.le_iff_toInt_le, Int32.lt_iff_toInt_lt, Int32.toInt_add, Int32.toInt_sub, Int32.toInt_mul, Int.bmod, Int32.reduceToInt, Nat.reducePow, Int32.toInt_toInt64, Int64.reduceToInt] at h0 hb_1 hq_1 c_2 ⊢ <;> omega) _ rfl) (cwV 2 hts gX4_isDry_X4_levelUnder rfl rfl rfl (by decide +kernel) ⟨(Nat.le_of_ble_eq_true rfl), (Nat.le_of_ble_eq_true rfl)⟩) ⟨z_bp, va_recv hE.1 hP (ci := 4) (q0 := 0) rfl rfl, fun U hU hW => ⟨rfl, by rw [hU]; exact hP.sub (ws' := [(a_this, .inr (4, [.ref a_this_levels, .ref a_this_heights, .int heightCount, .int stairs])), (a_this_levels, .inl (cyI, 8, .inl levels))]) [0, 1] rfl, hE.to hS (fun _ h => h.elim) hU hW⟩⟩ rfl rfl hl.1 rfl (lv_room (Nat.le_of_ble_eq_true rfl)) dX4_isDry_15 ⟨Nat.zero_le _, Nat.zero_le _⟩)) (fun r_4 hr_4 => ?_)
    obtain rfl := hr_4
    refine lv_icmp_gt (tgt := 25) hx hb dX4_isDry_18 (by decide) (fun c_5 => ?_) (fun c_5 => ?_)
    · have hT := (if_pos c_5).symm.trans hT
      refine lv_iconst (v := (0 : Int32)) hx hb dX4_isDry_25 (by decide) ?_
      exact hret _ _ _ (Or.inl rfl) dX4_isDry_26 hT
    · have hT := (if_neg c_5).symm.trans hT
      refine lv_iconst (v := (1 : Int32)) hx hb dX4_isDry_21 (by decide) ?_
      refine lv_goto (tgt := 26) hx hb dX4_isDry_22 (by decide) ?_
      exact hret _ _ _ (Or.inr rfl) dX4_isDry_26 hT

def fX4_carried_l6 (heightCount : Int32) (levels : Nat → Int32) (heights : Nat → Int32) (x2 : Int32) (x3 : Int32) (x4 : Int32) (x5 : Int32) : Nat → Int32 → Int32 → Int32
  | 0, _, _ => (0 : Int32)
  | n + 1, y7_l6, y6_l6 => (if x3 ≤ y7_l6 then y6_l6 else (if 0 ≤ (y6_l6 + x2) then (if (y6_l6 + x2) < (8 : Int32) then (if (fX4_isDry heightCount levels heights (y6_l6 + x2) x4 x5) = 0 then (fX4_carried_l6 heightCount levels heights x2 x3 x4 x5 n (y7_l6 + 1) (y6_l6 + x2)) else (y6_l6 + x2)) else y6_l6) else (-2 : Int32)))
def fX4_carried (heightCount : Int32) (levels : Nat → Int32) (heights : Nat → Int32) (x1 : Int32) (x2 : Int32) (x3 : Int32) (x4 : Int32) (x5 : Int32) : Int32 := (fX4_carried_l6 heightCount levels heights x2 x3 x4 x5 4 (0 : Int32) x1)
abbrev rmX4_carried : Room := { frames := 3, cells := 0, slots := 0, locals := 67 }
set_option maxHeartbeats 4000000 in
set_option maxRecDepth 100000 in
theorem mX4_carried (l : Launch) (dC : Nat → ClassId) (dI : Nat → Nat → Nat) (cyI cyC cyZ : ClassId) (tF tE : Nat) (a_this : Nat) (a_this_levels : Nat) (a_this_heights : Nat) (heightCount : Int32) (stairs : Int32) (levels : Nat → Int32) (heights : Nat → Int32) (x1 : Int32) (x2 : Int32) (x3 : Int32) (x4 : Int32) (x5 : Int32) (h0 : heightCount ≤ 12) (h1 : x3 ≤ 3) (T : Int32) (hT : fX4_carried heightCount levels heights x1 x2 x3 x4 x5 = T) : Met l yX4_carried wsX4_carried rmX4_carried (va_Pc [.ref a_this, .int x1, .int x2, .int x3, .int x4, .int x5] (fun U => va_P (dC, dI) vwCl [(a_this, .inr (4, [.ref a_this_levels, .ref a_this_heights, .int heightCount, .int stairs])), (a_this_levels, .inl (cyI, 8, .inl levels)), (a_this_heights, .inl (cyI, 12, .inl heights))] U.heap ∧ zE (fun _ => False) dC dI cyI cyC cyZ tF tE U U.heap)) (vp_Si (fun r => r = T)) 0 0 (fun _ => False) := by
  rw [fX4_carried] at hT
  refine z_pi (cc := cX4_carried) (maxL := 9) (post := fun r => r = T) (by decide) rfl (Nat.le_of_ble_eq_true rfl) ?_
  intro p e s m below meth c Q hx hb hml hown hts hB hret ls hl
  obtain ⟨hP, hE⟩ := hB
  have hown : s.vm.findClass RX4 = some m.cls := hown
  have hS : va_S (fun _ => False) s.heap s.heap [] := va_S.rf
  have hl : lv_has ls 9 [(0, .ref a_this), (1, .int x1), (2, .int x2), (3, .int x3), (4, .int x4), (5, .int x5)] := hl
  refine lv_iload_n hx hb dX4_carried_0 rfl (lv_at hl 1 rfl) ?_
  refine lv_istore (lv' := [(6, .int x1), (0, .ref a_this), (1, .int x1), (2, .int x2), (3, .int x3), (4, .int x4), (5, .int x5)]) hx hb dX4_carried_1 hl (by decide) rfl (fun ls hl => ?_)
  refine lv_iconst (v := (0 : Int32)) hx hb dX4_carried_3 (by decide) ?_
  refine lv_istore (lv' := [(7, .int (0 : Int32)), (6, .int x1), (0, .ref a_this), (1, .int x1), (2, .int x2), (3, .int x3), (4, .int x4), (5, .int x5)]) hx hb dX4_carried_4 hl (by decide) rfl (fun ls hl => ?_)
  have Ll6 : ∀ (n : Nat) (y7_l6 : Int32) (y6_l6 : Int32), 0 ≤ y7_l6 → ((x3).toInt - (y7_l6).toInt).toNat < n → ∀ (ls : Array Slot), lv_has ls 9 [(7, .int y7_l6), (6, .int y6_l6), (0, .ref a_this), (2, .int x2), (3, .int x3), (4, .int x4), (5, .int x5)] → fX4_carried_l6 heightCount levels heights x2 x3 x4 x5 n y7_l6 y6_l6 = T → W p l e (headSpec wsX4_carried rmX4_carried).room s m ([.ref a_this, .int x1, .int x2, .int x3, .int x4, .int x5] : List Value).toArray below meth c s.heap [] 0 0 Q (F0 m 6 ls []) := by
    intro n
    induction n with
    | zero => intro y7_l6 y6_l6 hIl6_0 hm_; exact absurd hm_ (Nat.not_lt_zero _)
    | succ n ih =>
      intro y7_l6 y6_l6 hIl6_0 hm_ ls hl hT
      rw [fX4_carried_l6] at hT
      refine lv_iload hx hb dX4_carried_6 (lv_at hl 0 rfl) ?_
      refine lv_iload_n hx hb dX4_carried_8 rfl (lv_at hl 4 rfl) ?_
      refine lv_icmp_ge (tgt := 62) hx hb dX4_carried_9 (by decide) (fun c_1 => ?_) (fun c_1 => ?_)
      · have hT := (if_pos c_1).symm.trans hT
        refine lv_iload hx hb dX4_carried_62 (lv_at hl 1 rfl) ?_
        exact hret _ _ _ dX4_carried_64 hT
      · have hT := (if_neg c_1).symm.trans hT
        refine lv_iload hx hb dX4_carried_12 (lv_at hl 1 rfl) ?_
        refine lv_iload_n hx hb dX4_carried_14 rfl (lv_at hl 3 rfl) ?_
        refine lv_iadd hx hb dX4_carried_15 ?_
        refine lv_istore (lv' := [(8, .int (y6_l6 + x2)), (7, .int y7_l6), (6, .int y6_l6), (0, .ref a_this), (2, .int x2), (3, .int x3), (4, .int x4), (5, .int x5)]) hx hb dX4_carried_16 hl (by decide) rfl (fun ls hl => ?_)
        refine lv_iload hx hb dX4_carried_18 (lv_at hl 0 rfl) ?_
        refine lv_if_ge (tgt := 26) hx hb dX4_carried_20 (by decide) (fun c_2 => ?_) (fun c_2 => ?_)
        · have hT := (if_pos c_2).symm.trans hT
          refine lv_iload hx hb dX4_carried_26 (lv_at hl 0 rfl) ?_
          refine lv_bipush (v := (8 : Int32)) hx hb dX4_carried_28 (by decide) ?_
          refine lv_icmp_lt (tgt := 36) hx hb dX4_carried_30 (by decide) (fun c_3 => ?_) (fun c_3 => ?_)
          · have hT := (if_pos c_3).symm.trans hT
            refine lv_iload hx hb dX4_carried_36 (lv_at hl 0 rfl) ?_
            refine lv_istore (lv' := [(6, .int (y6_l6 + x2)), (8, .int (y6_l6 + x2)), (7, .int y7_l6), (0, .ref a_this), (2, .int x2), (3, .int x3), (4, .int x4), (5, .int x5)]) hx hb dX4_carried_38 hl (by decide) rfl (fun ls hl => ?_)
            refine lv_aload_n hx hb dX4_carried_40 rfl (lv_at hl 3 rfl) ?_
            refine lv_iload hx hb dX4_carried_41 (lv_at hl 0 rfl) ?_
            refine lv_iload hx hb dX4_carried_43 (lv_at hl 6 rfl) ?_
            refine lv_iload hx hb dX4_carried_45 (lv_at hl 7 rfl) ?_
            refine vp_callSi (va_Run.run (va_runV (As := [.int (y6_l6 + x2), .int x4, .int x5]) (rest := []) ⟨hx, hb, hml, hown, hts⟩ (mX4_isDry l dC dI cyI cyC cyZ tF tE a_this a_this_levels a_this_heights heightCount stairs levels heights (y6_l6 + x2) x4 x5 (show heightCount ≤ 12 by simp only [vp_in_iff, ← Int32.toInt_inj, Int32.le_iff_toInt_le, Int32.lt_iff_toInt_lt, Int32.toInt_add, Int32.toInt_sub, Int32.toInt_mul, Int.bmod, Int32.reduceToInt, Nat.reducePow, Int32.toInt_toInt64, Int64.reduceToInt] at h0 h1 hIl6_0 c_1 c_2 c_3 ⊢ <;> omega) _ rfl) (cwV 3 hts gX4_carried_X4_isDry rfl rfl rfl (by decide +kernel) ⟨(Nat.le_of_ble_eq_true rfl), (Nat.le_of_ble_eq_true rfl)⟩) ⟨z_bp, va_recv hE.1 hP (ci := 4) (q0 := 0) rfl rfl, fun U hU hW => ⟨rfl, by rw [hU]; exact hP.sub (ws' := [(a_this, .inr (4, [.ref a_this_levels, .ref a_this_heights, .int heightCount, .int stairs])), (a_this_levels, .inl (cyI, 8, .inl levels)), (a_this_heights, .inl (cyI, 12, .inl heights))]) [0, 1, 2] rfl, hE.to hS (fun _ h => h.elim) hU hW⟩⟩ rfl rfl hl.1 rfl (lv_room (Nat.le_of_ble_eq_true rfl)) dX4_carried_47 ⟨Nat.zero_le _, Nat.zero_le _⟩)) (fun r_4 hr_4 => ?_)
            obtain ⟨rfl, hb_4⟩ := hr_4
            refine lv_if_eq (tgt := 56) hx hb dX4_carried_50 (by decide) (fun c_5 => ?_) (fun c_5 => ?_)
            · have hT := (if_pos c_5).symm.trans hT
              refine lv_iinc (v := (y7_l6 + 1)) (lv' := [(7, .int (y7_l6 + 1)), (6, .int (y6_l6 + x2)), (8, .int (y6_l6 + x2)), (0, .ref a_this), (2, .int x2), (3, .int x3), (4, .int x4), (5, .int x5)]) hx hb dX4_carried_56 hl (k := 2) rfl rfl (by decide) rfl (fun ls hl => ?_)
              refine lv_goto (tgt := 6) hx hb dX4_carried_59 (by decide) ?_
              exact ih (y7_l6 + 1) (y6_l6 + x2) (show 0 ≤ (y7_l6 + 1) by simp only [vp_in_iff, ← Int32.toInt_inj, Int32.le_iff_toInt_le, Int32.lt_iff_toInt_lt, Int32.toInt_add, Int32.toInt_sub, Int32.toInt_mul, Int.bmod, Int32.reduceToInt, Nat.reducePow, Int32.toInt_toInt64, Int64.reduceToInt] at h0 h1 hIl6_0 c_1 c_2 c_3 hb_4 c_5 hm_ ⊢ <;> omega) (show ((x3).toInt - ((y7_l6 + 1)).toInt).toNat < n by simp only [vp_in_iff, ← Int32.toInt_inj, Int32.le_iff_toInt_le, Int32.lt_iff_toInt_lt, Int32.toInt_add, Int32.toInt_sub, Int32.toInt_mul, Int.bmod, Int32.reduceToInt, Nat.reducePow, Int32.toInt_toInt64, Int64.reduceToInt] at h0 h1 hIl6_0 c_1 c_2 c_3 hb_4 c_5 hm_ ⊢ <;> omega) ls (lv_sub hl [0, 1, 3, 4, 5, 6, 7] rfl) hT
            · have hT := (if_neg c_5).symm.trans hT
              refine lv_iload hx hb dX4_carried_53 (lv_at hl 0 rfl) ?_
              exact hret _ _ _ dX4_carried_55 hT
          · have hT := (if_neg c_3).symm.trans hT
            refine lv_iload hx hb dX4_carried_33 (lv_at hl 2 rfl) ?_
            exact hret _ _ _ dX4_carried_35 hT
        · have hT := (if_neg c_2).symm.trans hT
          refine lv_bipush (v := (-2 : Int32)) hx hb dX4_carried_23 (by decide) ?_
          exact hret _ _ _ dX4_carried_25 hT
  exact Ll6 4 (0 : Int32) x1 (show 0 ≤ (0 : Int32) by simp only [vp_in_iff, ← Int32.toInt_inj, Int32.le_iff_toInt_le, Int32.lt_iff_toInt_lt, Int32.toInt_add, Int32.toInt_sub, Int32.toInt_mul, Int.bmod, Int32.reduceToInt, Nat.reducePow, Int32.toInt_toInt64, Int64.reduceToInt] at h0 h1 ⊢ <;> omega) (show ((x3).toInt - ((0 : Int32)).toInt).toNat < 4 by simp only [vp_in_iff, ← Int32.toInt_inj, Int32.le_iff_toInt_le, Int32.lt_iff_toInt_lt, Int32.toInt_add, Int32.toInt_sub, Int32.toInt_mul, Int.bmod, Int32.reduceToInt, Nat.reducePow, Int32.toInt_toInt64, Int64.reduceToInt] at h0 h1 ⊢ <;> omega) ls (lv_sub hl [0, 1, 2, 4, 5, 6, 7] rfl) hT

def fX4_drifted (heightCount : Int32) (levels : Nat → Int32) (heights : Nat → Int32) (x1 : Int32) (x2 : Int32) (x3 : Int32) (x4 : Int32) : Int32 := (if (fX5_isKind x1) = 0 then x2 else (if (fX5_isCell x2) = 0 then x2 else (if (fX4_isDry heightCount levels heights x2 x3 x4) = 0 then (if (fX4_heightIn heightCount heights (x3 + (1 : Int32))) ≤ (fX4_heightIn heightCount heights x3) then (if (fX4_heightIn heightCount heights x3) ≤ (fX4_heightIn heightCount heights (x3 + (1 : Int32))) then x2 else (fX4_carried heightCount levels heights x2 (-1 : Int32) (z_eb x1.toNatClampNeg) (x3 + (1 : Int32)) x4)) else (fX4_carried heightCount levels heights x2 (1 : Int32) (z_fl x1.toNatClampNeg) (x3 + (1 : Int32)) x4)) else x2)))
abbrev rmX4_drifted : Room := { frames := 4, cells := 0, slots := 0, locals := 95 }
theorem eX4_drifted_0 : (Cond.initialized RX5 : Cond) ∈ wsX4_drifted := by decide +kernel
theorem eX4_drifted_1 : (Cond.static yX5_isKind : Cond) ∈ wsX4_drifted := by decide +kernel
theorem eX4_drifted_2 : (Cond.static yX5_isCell : Cond) ∈ wsX4_drifted := by decide +kernel
set_option maxHeartbeats 4000000 in
set_option maxRecDepth 100000 in
theorem mX4_drifted (l : Launch) (dC : Nat → ClassId) (dI : Nat → Nat → Nat) (cyI cyC cyZ : ClassId) (tF tE : Nat) (a_this : Nat) (a_this_levels : Nat) (a_this_heights : Nat) (heightCount : Int32) (stairs : Int32) (levels : Nat → Int32) (heights : Nat → Int32) (x1 : Int32) (x2 : Int32) (x3 : Int32) (x4 : Int32) (h0 : heightCount ≤ 12) (T : Int32) (hT : fX4_drifted heightCount levels heights x1 x2 x3 x4 = T) : Met l yX4_drifted wsX4_drifted rmX4_drifted (va_Pc [.ref a_this, .int x1, .int x2, .int x3, .int x4] (fun U => va_P (dC, dI) vwCl [(a_this, .inr (4, [.ref a_this_levels, .ref a_this_heights, .int heightCount, .int stairs])), (a_this_levels, .inl (cyI, 8, .inl levels)), (a_this_heights, .inl (cyI, 12, .inl heights))] U.heap ∧ zE (fun _ => False) dC dI cyI cyC cyZ tF tE U U.heap)) (vp_Si (fun r => r = T)) 0 0 (fun _ => False) := by
  rw [fX4_drifted] at hT
  refine z_pi (cc := cX4_drifted) (maxL := 7) (post := fun r => r = T) (by decide) rfl (Nat.le_of_ble_eq_true rfl) ?_
  intro p e s m below meth c Q hx hb hml hown hts hB hret ls hl
  obtain ⟨hP, hE⟩ := hB
  have hown : s.vm.findClass RX4 = some m.cls := hown
  have hS : va_S (fun _ => False) s.heap s.heap [] := va_S.rf
  have hl : lv_has ls 7 [(0, .ref a_this), (1, .int x1), (2, .int x2), (3, .int x3), (4, .int x4)] := hl
  refine lv_iload_n hx hb dX4_drifted_0 rfl (lv_at hl 1 rfl) ?_
  refine vp_callSi (va_Run.run (va_runSN (As := [.int x1]) (rest := []) ⟨hx, hb, hml, hown, hts⟩ (mX5_isKind l dC dI cyI cyC cyZ tF tE x1 _ rfl) ⟨va_cnB 1 hts gX4_drifted_X5_isKind_n66 rfl rfl rfl (zN_X4_66 (zE_N hE)) (hts _ eX4_drifted_0) (by decide +kernel) ⟨(Nat.le_of_ble_eq_true rfl), (Nat.le_of_ble_eq_true rfl)⟩, (hts _ eX4_drifted_1), trivial⟩ ⟨z_bp, fun U hU hW => ⟨rfl, by rw [hU]; exact hP.sub (ws' := []) [] rfl, hE.to hS (fun _ h => h.elim) hU hW⟩⟩ rfl rfl hl.1 rfl (lv_room (Nat.le_of_ble_eq_true rfl)) dX4_drifted_1 ⟨Nat.zero_le _, Nat.zero_le _⟩)) (fun r_1 hr_1 => ?_)
  obtain ⟨rfl, hb_1⟩ := hr_1
  have hq_1 := zX5_isKind x1 
  refine lv_if_eq (tgt := 25) hx hb dX4_drifted_4 (by decide) (fun c_2 => ?_) (fun c_2 => ?_)
  · have hT := (if_pos c_2).symm.trans hT
    refine lv_iload_n hx hb dX4_drifted_25 rfl (lv_at hl 2 rfl) ?_
    exact hret _ _ _ dX4_drifted_26 hT
  · have hT := (if_neg c_2).symm.trans hT
    refine lv_iload_n hx hb dX4_drifted_7 rfl (lv_at hl 2 rfl) ?_
    refine vp_callSi (va_Run.run (va_runSN (As := [.int x2]) (rest := []) ⟨hx, hb, hml, hown, hts⟩ (mX5_isCell l dC dI cyI cyC cyZ tF tE x2 _ rfl) ⟨va_cnB 1 hts gX4_drifted_X5_isCell_n38 rfl rfl rfl (zN_X4_38 (zE_N hE)) (hts _ eX4_drifted_0) (by decide +kernel) ⟨(Nat.le_of_ble_eq_true rfl), (Nat.le_of_ble_eq_true rfl)⟩, (hts _ eX4_drifted_2), trivial⟩ ⟨z_bp, fun U hU hW => ⟨rfl, by rw [hU]; exact hP.sub (ws' := []) [] rfl, hE.to hS (fun _ h => h.elim) hU hW⟩⟩ rfl rfl hl.1 rfl (lv_room (Nat.le_of_ble_eq_true rfl)) dX4_drifted_8 ⟨Nat.zero_le _, Nat.zero_le _⟩)) (fun r_3 hr_3 => ?_)
    obtain ⟨rfl, hb_3⟩ := hr_3
    have hq_3 := zX5_isCell x2 
    refine lv_if_eq (tgt := 25) hx hb dX4_drifted_11 (by decide) (fun c_4 => ?_) (fun c_4 => ?_)
    · have hT := (if_pos c_4).symm.trans hT
      refine lv_iload_n hx hb dX4_drifted_25 rfl (lv_at hl 2 rfl) ?_
      exact hret _ _ _ dX4_drifted_26 hT
    · have hT := (if_neg c_4).symm.trans hT
      refine lv_aload_n hx hb dX4_drifted_14 rfl (lv_at hl 0 rfl) ?_
      refine lv_iload_n hx hb dX4_drifted_15 rfl (lv_at hl 2 rfl) ?_
      refine lv_iload_n hx hb dX4_drifted_16 rfl (lv_at hl 3 rfl) ?_
      refine lv_iload hx hb dX4_drifted_17 (lv_at hl 4 rfl) ?_
      refine vp_callSi (va_Run.run (va_runV (As := [.int x2, .int x3, .int x4]) (rest := []) ⟨hx, hb, hml, hown, hts⟩ (mX4_isDry l dC dI cyI cyC cyZ tF tE a_this a_this_levels a_this_heights heightCount stairs levels heights x2 x3 x4 (show heightCount ≤ 12 by simp only [vp_in_iff, ← Int32.toInt_inj, Int32.le_iff_toInt_le, Int32.lt_iff_toInt_lt, Int32.toInt_add, Int32.toInt_sub, Int32.toInt_mul, Int.bmod, Int32.reduceToInt, Nat.reducePow, Int32.toInt_toInt64, Int64.reduceToInt] at h0 hb_1 hq_1 c_2 hb_3 hq_3 c_4 ⊢ <;> omega) _ rfl) (cwV 3 hts gX4_drifted_X4_isDry rfl rfl rfl (by decide +kernel) ⟨(Nat.le_of_ble_eq_true rfl), (Nat.le_of_ble_eq_true rfl)⟩) ⟨z_bp, va_recv hE.1 hP (ci := 4) (q0 := 0) rfl rfl, fun U hU hW => ⟨rfl, by rw [hU]; exact hP.sub (ws' := [(a_this, .inr (4, [.ref a_this_levels, .ref a_this_heights, .int heightCount, .int stairs])), (a_this_levels, .inl (cyI, 8, .inl levels)), (a_this_heights, .inl (cyI, 12, .inl heights))]) [0, 1, 2] rfl, hE.to hS (fun _ h => h.elim) hU hW⟩⟩ rfl rfl hl.1 rfl (lv_room (Nat.le_of_ble_eq_true rfl)) dX4_drifted_19 ⟨Nat.zero_le _, Nat.zero_le _⟩)) (fun r_5 hr_5 => ?_)
      obtain ⟨rfl, hb_5⟩ := hr_5
      refine lv_if_eq (tgt := 27) hx hb dX4_drifted_22 (by decide) (fun c_6 => ?_) (fun c_6 => ?_)
      · have hT := (if_pos c_6).symm.trans hT
        refine lv_aload_n hx hb dX4_drifted_27 rfl (lv_at hl 0 rfl) ?_
        refine lv_iload_n hx hb dX4_drifted_28 rfl (lv_at hl 3 rfl) ?_
        refine vp_callSi (va_Run.run (va_runV (As := [.int x3]) (rest := []) ⟨hx, hb, hml, hown, hts⟩ (mX4_heightIn l dC dI cyI cyC cyZ tF tE a_this a_this_levels a_this_heights heightCount stairs heights x3 (show heightCount ≤ 12 by simp only [vp_in_iff, ← Int32.toInt_inj, Int32.le_iff_toInt_le, Int32.lt_iff_toInt_lt, Int32.toInt_add, Int32.toInt_sub, Int32.toInt_mul, Int.bmod, Int32.reduceToInt, Nat.reducePow, Int32.toInt_toInt64, Int64.reduceToInt] at h0 hb_1 hq_1 c_2 hb_3 hq_3 c_4 hb_5 c_6 ⊢ <;> omega) _ rfl) (cwV 1 hts gX4_drifted_X4_heightIn rfl rfl rfl (by decide +kernel) ⟨(Nat.le_of_ble_eq_true rfl), (Nat.le_of_ble_eq_true rfl)⟩) ⟨z_bp, va_recv hE.1 hP (ci := 4) (q0 := 0) rfl rfl, fun U hU hW => ⟨rfl, by rw [hU]; exact hP.sub (ws' := [(a_this, .inr (4, [.ref a_this_levels, .ref a_this_heights, .int heightCount, .int stairs])), (a_this_heights, .inl (cyI, 12, .inl heights))]) [0, 2] rfl, hE.to hS (fun _ h => h.elim) hU hW⟩⟩ rfl rfl hl.1 rfl (lv_room (Nat.le_of_ble_eq_true rfl)) dX4_drifted_29 ⟨Nat.zero_le _, Nat.zero_le _⟩)) (fun r_7 hr_7 => ?_)
        obtain rfl := hr_7
        refine lv_istore (lv' := [(5, .int (fX4_heightIn heightCount heights x3)), (0, .ref a_this), (1, .int x1), (2, .int x2), (3, .int x3), (4, .int x4)]) hx hb dX4_drifted_32 hl (by decide) rfl (fun ls hl => ?_)
        refine lv_aload_n hx hb dX4_drifted_34 rfl (lv_at hl 1 rfl) ?_
        refine lv_iload_n hx hb dX4_drifted_35 rfl (lv_at hl 4 rfl) ?_
        refine lv_iconst (v := (1 : Int32)) hx hb dX4_drifted_36 (by decide) ?_
        refine lv_iadd hx hb dX4_drifted_37 ?_
        refine vp_callSi (va_Run.run (va_runV (As := [.int (x3 + (1 : Int32))]) (rest := []) ⟨hx, hb, hml, hown, hts⟩ (mX4_heightIn l dC dI cyI cyC cyZ tF tE a_this a_this_levels a_this_heights heightCount stairs heights (x3 + (1 : Int32)) (show heightCount ≤ 12 by simp only [vp_in_iff, ← Int32.toInt_inj, Int32.le_iff_toInt_le, Int32.lt_iff_toInt_lt, Int32.toInt_add, Int32.toInt_sub, Int32.toInt_mul, Int.bmod, Int32.reduceToInt, Nat.reducePow, Int32.toInt_toInt64, Int64.reduceToInt] at h0 hb_1 hq_1 c_2 hb_3 hq_3 c_4 hb_5 c_6 ⊢ <;> omega) _ rfl) (cwV 1 hts gX4_drifted_X4_heightIn rfl rfl rfl (by decide +kernel) ⟨(Nat.le_of_ble_eq_true rfl), (Nat.le_of_ble_eq_true rfl)⟩) ⟨z_bp, va_recv hE.1 hP (ci := 4) (q0 := 0) rfl rfl, fun U hU hW => ⟨rfl, by rw [hU]; exact hP.sub (ws' := [(a_this, .inr (4, [.ref a_this_levels, .ref a_this_heights, .int heightCount, .int stairs])), (a_this_heights, .inl (cyI, 12, .inl heights))]) [0, 2] rfl, hE.to hS (fun _ h => h.elim) hU hW⟩⟩ rfl rfl hl.1 rfl (lv_room (Nat.le_of_ble_eq_true rfl)) dX4_drifted_38 ⟨Nat.zero_le _, Nat.zero_le _⟩)) (fun r_8 hr_8 => ?_)
        obtain rfl := hr_8
        refine lv_istore (lv' := [(6, .int (fX4_heightIn heightCount heights (x3 + (1 : Int32)))), (5, .int (fX4_heightIn heightCount heights x3)), (0, .ref a_this), (1, .int x1), (2, .int x2), (3, .int x3), (4, .int x4)]) hx hb dX4_drifted_41 hl (by decide) rfl (fun ls hl => ?_)
        refine lv_iload hx hb dX4_drifted_43 (lv_at hl 0 rfl) ?_
        refine lv_iload hx hb dX4_drifted_45 (lv_at hl 1 rfl) ?_
        refine lv_icmp_le (tgt := 67) hx hb dX4_drifted_47 (by decide) (fun c_9 => ?_) (fun c_9 => ?_)
        · have hT := (if_pos c_9).symm.trans hT
          refine lv_iload hx hb dX4_drifted_67 (lv_at hl 0 rfl) ?_
          refine lv_iload hx hb dX4_drifted_69 (lv_at hl 1 rfl) ?_
          refine lv_icmp_ge (tgt := 91) hx hb dX4_drifted_71 (by decide) (fun c_10 => ?_) (fun c_10 => ?_)
          · have hT := (if_pos c_10).symm.trans hT
            refine lv_iload_n hx hb dX4_drifted_91 rfl (lv_at hl 4 rfl) ?_
            exact hret _ _ _ dX4_drifted_92 hT
          · have hT := (if_neg c_10).symm.trans hT
            refine lv_aload_n hx hb dX4_drifted_74 rfl (lv_at hl 2 rfl) ?_
            refine lv_iload_n hx hb dX4_drifted_75 rfl (lv_at hl 4 rfl) ?_
            refine lv_iconst (v := (-1 : Int32)) hx hb dX4_drifted_76 (by decide) ?_
            refine va_getsN hx hb (zE_ZE hE) hS hown (va_Nw.use rfl (zN_E (zE_N hE))) (fun _ h9 => h9) dX4_drifted_77 ?_
            refine lv_iload_n hx hb dX4_drifted_80 rfl (lv_at hl 3 rfl) ?_
            refine va_ti (v := .int (z_eb x1.toNatClampNeg)) hx hb (zE_TE hE) hS (show vp_in x1 5 by simp only [vp_in_iff, ← Int32.toInt_inj, Int32.le_iff_toInt_le, Int32.lt_iff_toInt_lt, Int32.toInt_add, Int32.toInt_sub, Int32.toInt_mul, Int.bmod, Int32.reduceToInt, Nat.reducePow, Int32.toInt_toInt64, Int64.reduceToInt] at h0 hb_1 hq_1 c_2 hb_3 hq_3 c_4 hb_5 c_6 c_9 c_10 ⊢ <;> omega) rfl dX4_drifted_81 ?_
            refine lv_iload_n hx hb dX4_drifted_82 rfl (lv_at hl 5 rfl) ?_
            refine lv_iconst (v := (1 : Int32)) hx hb dX4_drifted_83 (by decide) ?_
            refine lv_iadd hx hb dX4_drifted_84 ?_
            refine lv_iload hx hb dX4_drifted_85 (lv_at hl 6 rfl) ?_
            refine vp_callSi (va_Run.run (va_runV (As := [.int x2, .int (-1 : Int32), .int (z_eb x1.toNatClampNeg), .int (x3 + (1 : Int32)), .int x4]) (rest := []) ⟨hx, hb, hml, hown, hts⟩ (mX4_carried l dC dI cyI cyC cyZ tF tE a_this a_this_levels a_this_heights heightCount stairs levels heights x2 (-1 : Int32) (z_eb x1.toNatClampNeg) (x3 + (1 : Int32)) x4 (show heightCount ≤ 12 by simp only [vp_in_iff, ← Int32.toInt_inj, Int32.le_iff_toInt_le, Int32.lt_iff_toInt_lt, Int32.toInt_add, Int32.toInt_sub, Int32.toInt_mul, Int.bmod, Int32.reduceToInt, Nat.reducePow, Int32.toInt_toInt64, Int64.reduceToInt] at h0 hb_1 hq_1 c_2 hb_3 hq_3 c_4 hb_5 c_6 c_9 c_10 ⊢ <;> omega) (show (z_eb x1.toNatClampNeg) ≤ 3 by exact z_eb_le _) _ rfl) (cwV 5 hts gX4_drifted_X4_carried rfl rfl rfl (by decide +kernel) ⟨(Nat.le_of_ble_eq_true rfl), (Nat.le_of_ble_eq_true rfl)⟩) ⟨z_bp, va_recv hE.1 hP (ci := 4) (q0 := 0) rfl rfl, fun U hU hW => ⟨rfl, by rw [hU]; exact hP.sub (ws' := [(a_this, .inr (4, [.ref a_this_levels, .ref a_this_heights, .int heightCount, .int stairs])), (a_this_levels, .inl (cyI, 8, .inl levels)), (a_this_heights, .inl (cyI, 12, .inl heights))]) [0, 1, 2] rfl, hE.to hS (fun _ h => h.elim) hU hW⟩⟩ rfl rfl hl.1 rfl (lv_room (Nat.le_of_ble_eq_true rfl)) dX4_drifted_87 ⟨Nat.zero_le _, Nat.zero_le _⟩)) (fun r_11 hr_11 => ?_)
            obtain rfl := hr_11
            exact hret _ _ _ dX4_drifted_90 hT
        · have hT := (if_neg c_9).symm.trans hT
          refine lv_aload_n hx hb dX4_drifted_50 rfl (lv_at hl 2 rfl) ?_
          refine lv_iload_n hx hb dX4_drifted_51 rfl (lv_at hl 4 rfl) ?_
          refine lv_iconst (v := (1 : Int32)) hx hb dX4_drifted_52 (by decide) ?_
          refine va_getsN hx hb (zE_ZF hE) hS hown (va_Nw.use rfl (zN_F (zE_N hE))) (fun _ h9 => h9) dX4_drifted_53 ?_
          refine lv_iload_n hx hb dX4_drifted_56 rfl (lv_at hl 3 rfl) ?_
          refine va_ti (v := .int (z_fl x1.toNatClampNeg)) hx hb (zE_TF hE) hS (show vp_in x1 5 by simp only [vp_in_iff, ← Int32.toInt_inj, Int32.le_iff_toInt_le, Int32.lt_iff_toInt_lt, Int32.toInt_add, Int32.toInt_sub, Int32.toInt_mul, Int.bmod, Int32.reduceToInt, Nat.reducePow, Int32.toInt_toInt64, Int64.reduceToInt] at h0 hb_1 hq_1 c_2 hb_3 hq_3 c_4 hb_5 c_6 c_9 ⊢ <;> omega) rfl dX4_drifted_57 ?_
          refine lv_iload_n hx hb dX4_drifted_58 rfl (lv_at hl 5 rfl) ?_
          refine lv_iconst (v := (1 : Int32)) hx hb dX4_drifted_59 (by decide) ?_
          refine lv_iadd hx hb dX4_drifted_60 ?_
          refine lv_iload hx hb dX4_drifted_61 (lv_at hl 6 rfl) ?_
          refine vp_callSi (va_Run.run (va_runV (As := [.int x2, .int (1 : Int32), .int (z_fl x1.toNatClampNeg), .int (x3 + (1 : Int32)), .int x4]) (rest := []) ⟨hx, hb, hml, hown, hts⟩ (mX4_carried l dC dI cyI cyC cyZ tF tE a_this a_this_levels a_this_heights heightCount stairs levels heights x2 (1 : Int32) (z_fl x1.toNatClampNeg) (x3 + (1 : Int32)) x4 (show heightCount ≤ 12 by simp only [vp_in_iff, ← Int32.toInt_inj, Int32.le_iff_toInt_le, Int32.lt_iff_toInt_lt, Int32.toInt_add, Int32.toInt_sub, Int32.toInt_mul, Int.bmod, Int32.reduceToInt, Nat.reducePow, Int32.toInt_toInt64, Int64.reduceToInt] at h0 hb_1 hq_1 c_2 hb_3 hq_3 c_4 hb_5 c_6 c_9 ⊢ <;> omega) (show (z_fl x1.toNatClampNeg) ≤ 3 by exact z_fl_le _) _ rfl) (cwV 5 hts gX4_drifted_X4_carried rfl rfl rfl (by decide +kernel) ⟨(Nat.le_of_ble_eq_true rfl), (Nat.le_of_ble_eq_true rfl)⟩) ⟨z_bp, va_recv hE.1 hP (ci := 4) (q0 := 0) rfl rfl, fun U hU hW => ⟨rfl, by rw [hU]; exact hP.sub (ws' := [(a_this, .inr (4, [.ref a_this_levels, .ref a_this_heights, .int heightCount, .int stairs])), (a_this_levels, .inl (cyI, 8, .inl levels)), (a_this_heights, .inl (cyI, 12, .inl heights))]) [0, 1, 2] rfl, hE.to hS (fun _ h => h.elim) hU hW⟩⟩ rfl rfl hl.1 rfl (lv_room (Nat.le_of_ble_eq_true rfl)) dX4_drifted_63 ⟨Nat.zero_le _, Nat.zero_le _⟩)) (fun r_12 hr_12 => ?_)
          obtain rfl := hr_12
          exact hret _ _ _ dX4_drifted_66 hT
      · have hT := (if_neg c_6).symm.trans hT
        refine lv_iload_n hx hb dX4_drifted_25 rfl (lv_at hl 2 rfl) ?_
        exact hret _ _ _ dX4_drifted_26 hT

def fX4_nearestStair_j49l18 (k_ : Int32 → Int32 → Int32 → Int32) (x1 : Int32) (y5_l18 : Int32) (y4_l18 : Int32) (y3_l18 : Int32) : Int32 := (if y4_l18 ≤ (jabs (y5_l18 - x1)) then (k_ (y5_l18 + 1) y4_l18 y3_l18) else (k_ (y5_l18 + 1) (jabs (y5_l18 - x1)) y5_l18))
def fX4_nearestStair_l18 (stairs : Int32) (x1 : Int32) (x2 : Int32) : Nat → Int32 → Int32 → Int32 → Int32
  | 0, _, _, _ => (0 : Int32)
  | n + 1, y5_l18, y4_l18, y3_l18 => (if (8 : Int32) ≤ y5_l18 then y3_l18 else (if (fX4_hasStair stairs y5_l18) = 0 then (if y5_l18 = x2 then (fX4_nearestStair_j49l18 (fun k0_ k1_ k2_ => (fX4_nearestStair_l18 stairs x1 x2 n k0_ k1_ k2_)) x1 y5_l18 y4_l18 y3_l18) else (fX4_nearestStair_l18 stairs x1 x2 n (y5_l18 + 1) y4_l18 y3_l18)) else (fX4_nearestStair_j49l18 (fun k0_ k1_ k2_ => (fX4_nearestStair_l18 stairs x1 x2 n k0_ k1_ k2_)) x1 y5_l18 y4_l18 y3_l18)))
def fX4_nearestStair_x18 (y3_l18_x : Int32) : Int32 := y3_l18_x
def fX4_nearestStair (stairs : Int32) (x1 : Int32) (x2 : Int32) : Int32 := (if (fX5_isCell x1) = 0 then (-1 : Int32) else (fX4_nearestStair_x18 (fX4_nearestStair_l18 stairs x1 x2 9 (0 : Int32) (8 : Int32) (-1 : Int32))))
abbrev rmX4_nearestStair : Room := { frames := 2, cells := 0, slots := 0, locals := 41 }
theorem eX4_nearestStair_0 : (Cond.initialized RX5 : Cond) ∈ wsX4_nearestStair := by decide +kernel
theorem eX4_nearestStair_1 : (Cond.static yX5_isCell : Cond) ∈ wsX4_nearestStair := by decide +kernel
theorem eX4_nearestStair_2 : (Cond.methodLink RX4 60 Lib.Math.abs.name : Cond) ∈ wsX4_nearestStair := by decide +kernel
theorem eX4_nearestStair_3 : (Cond.static Lib.Math.abs.name : Cond) ∈ wsX4_nearestStair := by decide +kernel
theorem eX4_nearestStair_4 : (Cond.initialized "java/lang/Math" : Cond) ∈ wsX4_nearestStair := by decide +kernel
theorem eX4_nearestStair_5 : (Cond.code Lib.Math.abs.name Lib.Math.abs.code 1 (some .int) : Cond) ∈ wsX4_nearestStair := by decide +kernel
set_option maxHeartbeats 4000000 in
set_option maxRecDepth 100000 in
theorem mX4_nearestStair (l : Launch) (dC : Nat → ClassId) (dI : Nat → Nat → Nat) (cyI cyC cyZ : ClassId) (tF tE : Nat) (a_this : Nat) (a_this_levels : Nat) (a_this_heights : Nat) (heightCount : Int32) (stairs : Int32) (x1 : Int32) (x2 : Int32) (T : Int32) (hT : fX4_nearestStair stairs x1 x2 = T) : Met l yX4_nearestStair wsX4_nearestStair rmX4_nearestStair (va_Pc [.ref a_this, .int x1, .int x2] (fun U => va_P (dC, dI) vwCl [(a_this, .inr (4, [.ref a_this_levels, .ref a_this_heights, .int heightCount, .int stairs]))] U.heap ∧ zE (fun _ => False) dC dI cyI cyC cyZ tF tE U U.heap)) (vp_Si (fun r => r = T)) 0 0 (fun _ => False) := by
  rw [fX4_nearestStair] at hT
  refine z_pi (cc := cX4_nearestStair) (maxL := 7) (post := fun r => r = T) (by decide) rfl (Nat.le_of_ble_eq_true rfl) ?_
  intro p e s m below meth c Q hx hb hml hown hts hB hret ls hl
  obtain ⟨hP, hE⟩ := hB
  have hown : s.vm.findClass RX4 = some m.cls := hown
  have hS : va_S (fun _ => False) s.heap s.heap [] := va_S.rf
  have hl : lv_has ls 7 [(0, .ref a_this), (1, .int x1), (2, .int x2)] := hl
  refine lv_iload_n hx hb dX4_nearestStair_0 rfl (lv_at hl 1 rfl) ?_
  refine vp_callSi (va_Run.run (va_runSN (As := [.int x1]) (rest := []) ⟨hx, hb, hml, hown, hts⟩ (mX5_isCell l dC dI cyI cyC cyZ tF tE x1 _ rfl) ⟨va_cnB 1 hts gX4_nearestStair_X5_isCell_n38 rfl rfl rfl (zN_X4_38 (zE_N hE)) (hts _ eX4_nearestStair_0) (by decide +kernel) ⟨(Nat.le_of_ble_eq_true rfl), (Nat.le_of_ble_eq_true rfl)⟩, (hts _ eX4_nearestStair_1), trivial⟩ ⟨z_bp, fun U hU hW => ⟨rfl, by rw [hU]; exact hP.sub (ws' := []) [] rfl, hE.to hS (fun _ h => h.elim) hU hW⟩⟩ rfl rfl hl.1 rfl (lv_room (Nat.le_of_ble_eq_true rfl)) dX4_nearestStair_1 ⟨Nat.zero_le _, Nat.zero_le _⟩)) (fun r_1 hr_1 => ?_)
  obtain ⟨rfl, hb_1⟩ := hr_1
  have hq_1 := zX5_isCell x1 
  refine lv_if_ne (tgt := 9) hx hb dX4_nearestStair_4 (by decide) (fun c_2 => ?_) (fun c_2 => ?_)
  · have hT := (if_neg c_2).symm.trans hT
    refine lv_iconst (v := (-1 : Int32)) hx hb dX4_nearestStair_9 (by decide) ?_
    refine lv_istore_n (lv' := [(3, .int (-1 : Int32)), (0, .ref a_this), (1, .int x1), (2, .int x2)]) hx hb dX4_nearestStair_10 rfl hl (by decide) rfl (fun ls hl => ?_)
    refine lv_bipush (v := (8 : Int32)) hx hb dX4_nearestStair_11 (by decide) ?_
    refine lv_istore (lv' := [(4, .int (8 : Int32)), (3, .int (-1 : Int32)), (0, .ref a_this), (1, .int x1), (2, .int x2)]) hx hb dX4_nearestStair_13 hl (by decide) rfl (fun ls hl => ?_)
    refine lv_iconst (v := (0 : Int32)) hx hb dX4_nearestStair_15 (by decide) ?_
    refine lv_istore (lv' := [(5, .int (0 : Int32)), (4, .int (8 : Int32)), (3, .int (-1 : Int32)), (0, .ref a_this), (1, .int x1), (2, .int x2)]) hx hb dX4_nearestStair_16 hl (by decide) rfl (fun ls hl => ?_)
    have Ll18 : ∀ (n : Nat) (y5_l18 : Int32) (y4_l18 : Int32) (y3_l18 : Int32), 0 ≤ y5_l18 → (((8 : Int32)).toInt - (y5_l18).toInt).toNat < n → ∀ (T_l18 : Int32), fX4_nearestStair_l18 stairs x1 x2 n y5_l18 y4_l18 y3_l18 = T_l18 → (∀ (ls : Array Slot), lv_has ls 7 [(3, .int T_l18)] → W p l e (headSpec wsX4_nearestStair rmX4_nearestStair).room s m ([.ref a_this, .int x1, .int x2] : List Value).toArray below meth c s.heap [] 0 0 Q (F0 m 69 ls [])) → ∀ (ls : Array Slot), lv_has ls 7 [(5, .int y5_l18), (4, .int y4_l18), (3, .int y3_l18), (0, .ref a_this), (1, .int x1), (2, .int x2)] → W p l e (headSpec wsX4_nearestStair rmX4_nearestStair).room s m ([.ref a_this, .int x1, .int x2] : List Value).toArray below meth c s.heap [] 0 0 Q (F0 m 18 ls []) := by
      intro n
      induction n with
      | zero => intro y5_l18 y4_l18 y3_l18 hIl18_0 hm_; exact absurd hm_ (Nat.not_lt_zero _)
      | succ n ih =>
        intro y5_l18 y4_l18 y3_l18 hIl18_0 hm_ T_l18 hT hK_ ls hl
        rw [fX4_nearestStair_l18] at hT
        refine lv_iload hx hb dX4_nearestStair_18 (lv_at hl 0 rfl) ?_
        refine lv_bipush (v := (8 : Int32)) hx hb dX4_nearestStair_20 (by decide) ?_
        refine lv_icmp_ge (tgt := 69) hx hb dX4_nearestStair_22 (by decide) (fun c_3 => ?_) (fun c_3 => ?_)
        · have hT := (if_pos c_3).symm.trans hT
          subst hT
          exact hK_ ls (lv_sub hl [2] rfl)
        · have hT := (if_neg c_3).symm.trans hT
          refine lv_iload hx hb dX4_nearestStair_25 (lv_at hl 0 rfl) ?_
          refine lv_iload_n hx hb dX4_nearestStair_27 rfl (lv_at hl 4 rfl) ?_
          refine lv_isub hx hb dX4_nearestStair_28 ?_
          refine va_mabs hx hb (hml.trans hl.1.symm) hown (hts _ eX4_nearestStair_2) (hts _ eX4_nearestStair_3) (hts _ eX4_nearestStair_4) (hts _ eX4_nearestStair_5) (Nat.le_of_ble_eq_true rfl) (Nat.le_of_ble_eq_true rfl) (Nat.zero_le _) (Nat.zero_le _) dX4_nearestStair_29 ?_
          refine lv_topi (fun v_4 ev_4 => ?_)
          obtain rfl : v_4 = (jabs (y5_l18 - x1)) := ev_4
          refine lv_istore (lv' := [(6, .int (jabs (y5_l18 - x1))), (5, .int y5_l18), (4, .int y4_l18), (3, .int y3_l18), (0, .ref a_this), (1, .int x1), (2, .int x2)]) hx hb dX4_nearestStair_32 hl (by decide) rfl (fun ls hl => ?_)
          refine lv_aload_n hx hb dX4_nearestStair_34 rfl (lv_at hl 4 rfl) ?_
          refine lv_iload hx hb dX4_nearestStair_35 (lv_at hl 1 rfl) ?_
          refine vp_callSi (va_Run.run (va_runV (As := [.int y5_l18]) (rest := []) ⟨hx, hb, hml, hown, hts⟩ (mX4_hasStair l dC dI cyI cyC cyZ tF tE a_this a_this_levels a_this_heights heightCount stairs y5_l18 _ rfl) (cwV 1 hts gX4_nearestStair_X4_hasStair rfl rfl rfl (by decide +kernel) ⟨(Nat.le_of_ble_eq_true rfl), (Nat.le_of_ble_eq_true rfl)⟩) ⟨z_bp, va_recv hE.1 hP (ci := 4) (q0 := 0) rfl rfl, fun U hU hW => ⟨rfl, by rw [hU]; exact hP.sub (ws' := [(a_this, .inr (4, [.ref a_this_levels, .ref a_this_heights, .int heightCount, .int stairs]))]) [0] rfl, hE.to hS (fun _ h => h.elim) hU hW⟩⟩ rfl rfl hl.1 rfl (lv_room (Nat.le_of_ble_eq_true rfl)) dX4_nearestStair_37 ⟨Nat.zero_le _, Nat.zero_le _⟩)) (fun r_5 hr_5 => ?_)
          obtain ⟨rfl, hb_5⟩ := hr_5
          have Jj49l18 : ∀ (ls : Array Slot), lv_has ls 7 [(6, .int (jabs (y5_l18 - x1))), (5, .int y5_l18), (4, .int y4_l18), (3, .int y3_l18), (0, .ref a_this), (1, .int x1), (2, .int x2)] → (fX4_nearestStair_j49l18 (fun k0_ k1_ k2_ => (fX4_nearestStair_l18 stairs x1 x2 n k0_ k1_ k2_)) x1 y5_l18 y4_l18 y3_l18) = T_l18 → W p l e (headSpec wsX4_nearestStair rmX4_nearestStair).room s m ([.ref a_this, .int x1, .int x2] : List Value).toArray below meth c s.heap [] 0 0 Q (F0 m 49 ls []) := by
            intro ls hl hT
            rw [fX4_nearestStair_j49l18] at hT
            refine lv_iload hx hb dX4_nearestStair_49 (lv_at hl 0 rfl) ?_
            refine lv_iload hx hb dX4_nearestStair_51 (lv_at hl 2 rfl) ?_
            refine lv_icmp_ge (tgt := 63) hx hb dX4_nearestStair_53 (by decide) (fun c_6 => ?_) (fun c_6 => ?_)
            · have hT := (if_pos c_6).symm.trans hT
              refine lv_iinc (v := (y5_l18 + 1)) (lv' := [(5, .int (y5_l18 + 1)), (6, .int (jabs (y5_l18 - x1))), (4, .int y4_l18), (3, .int y3_l18), (0, .ref a_this), (1, .int x1), (2, .int x2)]) hx hb dX4_nearestStair_63 hl (k := 1) rfl rfl (by decide) rfl (fun ls hl => ?_)
              refine lv_goto (tgt := 18) hx hb dX4_nearestStair_66 (by decide) ?_
              exact ih (y5_l18 + 1) y4_l18 y3_l18 (show 0 ≤ (y5_l18 + 1) by simp only [vp_in_iff, ← Int32.toInt_inj, Int32.le_iff_toInt_le, Int32.lt_iff_toInt_lt, Int32.toInt_add, Int32.toInt_sub, Int32.toInt_mul, Int.bmod, Int32.reduceToInt, Nat.reducePow, Int32.toInt_toInt64, Int64.reduceToInt] at hb_1 hq_1 c_2 hIl18_0 c_3 hb_5 c_6 hm_ ⊢ <;> omega) (show (((8 : Int32)).toInt - ((y5_l18 + 1)).toInt).toNat < n by simp only [vp_in_iff, ← Int32.toInt_inj, Int32.le_iff_toInt_le, Int32.lt_iff_toInt_lt, Int32.toInt_add, Int32.toInt_sub, Int32.toInt_mul, Int.bmod, Int32.reduceToInt, Nat.reducePow, Int32.toInt_toInt64, Int64.reduceToInt] at hb_1 hq_1 c_2 hIl18_0 c_3 hb_5 c_6 hm_ ⊢ <;> omega) _ hT hK_ ls (lv_sub hl [0, 2, 3, 4, 5, 6] rfl)
            · have hT := (if_neg c_6).symm.trans hT
              refine lv_iload hx hb dX4_nearestStair_56 (lv_at hl 0 rfl) ?_
              refine lv_istore (lv' := [(4, .int (jabs (y5_l18 - x1))), (6, .int (jabs (y5_l18 - x1))), (5, .int y5_l18), (3, .int y3_l18), (0, .ref a_this), (1, .int x1), (2, .int x2)]) hx hb dX4_nearestStair_58 hl (by decide) rfl (fun ls hl => ?_)
              refine lv_iload hx hb dX4_nearestStair_60 (lv_at hl 2 rfl) ?_
              refine lv_istore_n (lv' := [(3, .int y5_l18), (4, .int (jabs (y5_l18 - x1))), (6, .int (jabs (y5_l18 - x1))), (5, .int y5_l18), (0, .ref a_this), (1, .int x1), (2, .int x2)]) hx hb dX4_nearestStair_62 rfl hl (by decide) rfl (fun ls hl => ?_)
              refine lv_iinc (v := (y5_l18 + 1)) (lv' := [(5, .int (y5_l18 + 1)), (3, .int y5_l18), (4, .int (jabs (y5_l18 - x1))), (6, .int (jabs (y5_l18 - x1))), (0, .ref a_this), (1, .int x1), (2, .int x2)]) hx hb dX4_nearestStair_63 hl (k := 3) rfl rfl (by decide) rfl (fun ls hl => ?_)
              refine lv_goto (tgt := 18) hx hb dX4_nearestStair_66 (by decide) ?_
              exact ih (y5_l18 + 1) (jabs (y5_l18 - x1)) y5_l18 (show 0 ≤ (y5_l18 + 1) by simp only [vp_in_iff, ← Int32.toInt_inj, Int32.le_iff_toInt_le, Int32.lt_iff_toInt_lt, Int32.toInt_add, Int32.toInt_sub, Int32.toInt_mul, Int.bmod, Int32.reduceToInt, Nat.reducePow, Int32.toInt_toInt64, Int64.reduceToInt] at hb_1 hq_1 c_2 hIl18_0 c_3 hb_5 c_6 hm_ ⊢ <;> omega) (show (((8 : Int32)).toInt - ((y5_l18 + 1)).toInt).toNat < n by simp only [vp_in_iff, ← Int32.toInt_inj, Int32.le_iff_toInt_le, Int32.lt_iff_toInt_lt, Int32.toInt_add, Int32.toInt_sub, Int32.toInt_mul, Int.bmod, Int32.reduceToInt, Nat.reducePow, Int32.toInt_toInt64, Int64.reduceToInt] at hb_1 hq_1 c_2 hIl18_0 c_3 hb_5 c_6 hm_ ⊢ <;> omega) _ hT hK_ ls (lv_sub hl [0, 2, 1, 4, 5, 6] rfl)
          refine lv_if_ne (tgt := 49) hx hb dX4_nearestStair_40 (by decide) (fun c_7 => ?_) (fun c_7 => ?_)
          · have hT := (if_neg c_7).symm.trans hT
            exact Jj49l18 ls (lv_sub hl [0, 1, 2, 3, 4, 5, 6] rfl) hT
          · have hT := (if_pos c_7).symm.trans hT
            refine lv_iload hx hb dX4_nearestStair_43 (lv_at hl 1 rfl) ?_
            refine lv_iload_n hx hb dX4_nearestStair_45 rfl (lv_at hl 6 rfl) ?_
            refine lv_icmp_ne (tgt := 63) hx hb dX4_nearestStair_46 (by decide) (fun c_8 => ?_) (fun c_8 => ?_)
            · have hT := (if_neg c_8).symm.trans hT
              refine lv_iinc (v := (y5_l18 + 1)) (lv' := [(5, .int (y5_l18 + 1)), (6, .int (jabs (y5_l18 - x1))), (4, .int y4_l18), (3, .int y3_l18), (0, .ref a_this), (1, .int x1), (2, .int x2)]) hx hb dX4_nearestStair_63 hl (k := 1) rfl rfl (by decide) rfl (fun ls hl => ?_)
              refine lv_goto (tgt := 18) hx hb dX4_nearestStair_66 (by decide) ?_
              exact ih (y5_l18 + 1) y4_l18 y3_l18 (show 0 ≤ (y5_l18 + 1) by simp only [vp_in_iff, ← Int32.toInt_inj, Int32.le_iff_toInt_le, Int32.lt_iff_toInt_lt, Int32.toInt_add, Int32.toInt_sub, Int32.toInt_mul, Int.bmod, Int32.reduceToInt, Nat.reducePow, Int32.toInt_toInt64, Int64.reduceToInt] at hb_1 hq_1 c_2 hIl18_0 c_3 hb_5 c_7 c_8 hm_ ⊢ <;> omega) (show (((8 : Int32)).toInt - ((y5_l18 + 1)).toInt).toNat < n by simp only [vp_in_iff, ← Int32.toInt_inj, Int32.le_iff_toInt_le, Int32.lt_iff_toInt_lt, Int32.toInt_add, Int32.toInt_sub, Int32.toInt_mul, Int.bmod, Int32.reduceToInt, Nat.reducePow, Int32.toInt_toInt64, Int64.reduceToInt] at hb_1 hq_1 c_2 hIl18_0 c_3 hb_5 c_7 c_8 hm_ ⊢ <;> omega) _ hT hK_ ls (lv_sub hl [0, 2, 3, 4, 5, 6] rfl)
            · have hT := (if_pos c_8).symm.trans hT
              exact Jj49l18 ls (lv_sub hl [0, 1, 2, 3, 4, 5, 6] rfl) hT
    have Xl18 : ∀ (y3_l18_x : Int32), ∀ (ls : Array Slot), lv_has ls 7 [(3, .int y3_l18_x)] → (fX4_nearestStair_x18 y3_l18_x) = T → W p l e (headSpec wsX4_nearestStair rmX4_nearestStair).room s m ([.ref a_this, .int x1, .int x2] : List Value).toArray below meth c s.heap [] 0 0 Q (F0 m 69 ls []) := by
      intro y3_l18_x ls hl hT
      rw [fX4_nearestStair_x18] at hT
      refine lv_iload_n hx hb dX4_nearestStair_69 rfl (lv_at hl 0 rfl) ?_
      exact hret _ _ _ dX4_nearestStair_70 hT
    refine Ll18 9 (0 : Int32) (8 : Int32) (-1 : Int32) (show 0 ≤ (0 : Int32) by simp only [vp_in_iff, ← Int32.toInt_inj, Int32.le_iff_toInt_le, Int32.lt_iff_toInt_lt, Int32.toInt_add, Int32.toInt_sub, Int32.toInt_mul, Int.bmod, Int32.reduceToInt, Nat.reducePow, Int32.toInt_toInt64, Int64.reduceToInt] at hb_1 hq_1 c_2 ⊢ <;> omega) (show (((8 : Int32)).toInt - ((0 : Int32)).toInt).toNat < 9 by simp only [vp_in_iff, ← Int32.toInt_inj, Int32.le_iff_toInt_le, Int32.lt_iff_toInt_lt, Int32.toInt_add, Int32.toInt_sub, Int32.toInt_mul, Int.bmod, Int32.reduceToInt, Nat.reducePow, Int32.toInt_toInt64, Int64.reduceToInt] at hb_1 hq_1 c_2 ⊢ <;> omega) (fX4_nearestStair_l18 stairs x1 x2 9 (0 : Int32) (8 : Int32) (-1 : Int32)) rfl ?_ ls (lv_sub hl [0, 1, 2, 3, 4, 5] rfl)
    intro ls hl
    exact Xl18 (fX4_nearestStair_l18 stairs x1 x2 9 (0 : Int32) (8 : Int32) (-1 : Int32)) ls hl hT
  · have hT := (if_pos c_2).symm.trans hT
    refine lv_iconst (v := (-1 : Int32)) hx hb dX4_nearestStair_7 (by decide) ?_
    exact hret _ _ _ dX4_nearestStair_8 hT
