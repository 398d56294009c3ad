def fX2_letterOf (x0 : Int64) (x2 : Int32) : Int32 := ((jlushr x0 ((8 : Int32) * x2)) &&& (255 : Int64)).toInt32
abbrev rmX2_letterOf : Room := { frames := 0, cells := 0, slots := 0, locals := 0 }
theorem eX2_letterOf_0 : (Cond.constantLong RX2 42 (255) : Cond) ∈ wsX2_letterOf := by decide +kernel
set_option maxHeartbeats 4000000 in
set_option maxRecDepth 100000 in
theorem mX2_letterOf (l : Launch) (dC : Nat → ClassId) (dI : Nat → Nat → Nat) (cyI cyC cyZ : ClassId) (tF tE : Nat) (x0 : Int64) (x2 : Int32) (T : Int32) (hT : fX2_letterOf x0 x2 = T) : Met l yX2_letterOf wsX2_letterOf rmX2_letterOf (va_Pc [.long x0, .int x2] (fun U => va_P (dC, dI) vwCl [] U.heap ∧ zE (fun _ => False) dC dI cyI cyC cyZ tF tE U U.heap)) (vp_Si (fun r => r = T)) 0 0 (fun _ => False) := by
  rw [fX2_letterOf] at hT
  refine z_pi (cc := cX2_letterOf) (maxL := 3) (post := fun r => r = T) (by decide) rfl (Nat.le_of_ble_eq_true rfl) ?_
  intro p e s m below meth c Q hx hb hml hown hts hB hret ls hl
  obtain ⟨hP, hE⟩ := hB
  have hown : s.vm.findClass RX2 = some m.cls := hown
  have hS : va_S (fun _ => False) s.heap s.heap [] := va_S.rf
  have hl : lv_has ls 3 [(0, .long x0), (2, .int x2)] := hl
  refine lv_lload_n hx hb dX2_letterOf_0 rfl (lv_at hl 0 rfl) ?_
  refine lv_bipush (v := (8 : Int32)) hx hb dX2_letterOf_1 (by decide) ?_
  refine lv_iload_n hx hb dX2_letterOf_3 rfl (lv_at hl 1 rfl) ?_
  refine lv_imul hx hb dX2_letterOf_4 ?_
  refine lv_lushr hx hb dX2_letterOf_5 rfl ?_
  refine lv_topl (fun v_1 ev_1 => ?_)
  obtain rfl : v_1 = (jlushr x0 ((8 : Int32) * x2)) := ev_1
  refine lv_ldc2 (own := RX2) (v := (255 : Int64)) hx hb hown (hts _ eX2_letterOf_0) dX2_letterOf_6 ?_
  refine lv_land hx hb dX2_letterOf_9 ?_
  refine lv_l2i hx hb dX2_letterOf_10 rfl ?_
  exact hret _ _ _ dX2_letterOf_11 hT

def fX2_lettersIn_j40l7 (k_ : Int32 → Int32 → Int32 → Int32) (x0 : Int64) (y4_l7 : Int32) (y3_l7 : Int32) (y2_l7 : Int32) : Int32 := (if (fX2_letterOf x0 y4_l7) = 0 then (k_ (y4_l7 + 1) (1 : Int32) y2_l7) else (k_ (y4_l7 + 1) y3_l7 (y2_l7 + 1)))
def fX2_lettersIn_l7 (x0 : Int64) : Nat → Int32 → Int32 → Int32 → Int32
  | 0, _, _, _ => (0 : Int32)
  | n + 1, y4_l7, y3_l7, y2_l7 => (if (8 : Int32) ≤ y4_l7 then y2_l7 else (if (126 : Int32) < (fX2_letterOf x0 y4_l7) then (-1 : Int32) else (if y3_l7 = 0 then (fX2_lettersIn_j40l7 (fun k0_ k1_ k2_ => (fX2_lettersIn_l7 x0 n k0_ k1_ k2_)) x0 y4_l7 y3_l7 y2_l7) else (if (fX2_letterOf x0 y4_l7) = 0 then (fX2_lettersIn_j40l7 (fun k0_ k1_ k2_ => (fX2_lettersIn_l7 x0 n k0_ k1_ k2_)) x0 y4_l7 y3_l7 y2_l7) else (-1 : Int32)))))
def fX2_lettersIn (x0 : Int64) : Int32 := (fX2_lettersIn_l7 x0 9 (0 : Int32) (0 : Int32) (0 : Int32))
theorem zX2_lettersIn_l (x0 : Int64) : ∀ (n : Nat) (i e t : Int32), 0 ≤ i → 0 ≤ t → t ≤ i → i ≤ 8 → fX2_lettersIn_l7 x0 n i e t ≤ 8 := by
  intro n
  induction n with
  | zero => intro i e t _ _ _ _; rw [fX2_lettersIn_l7]; decide
  | succ n ih =>
    intro i e t h0 h1 h2 h3; rw [fX2_lettersIn_l7]
    simp only [fX2_lettersIn_j40l7]
    split
    · simp only [vp_in_iff, ← Int32.toInt_inj, Int32.le_iff_toInt_le, Int32.lt_iff_toInt_lt, Int32.toInt_add, Int32.toInt_sub, Int32.toInt_mul, Int.bmod, Int32.reduceToInt, Nat.reducePow, Int32.toInt_toInt64, Int64.reduceToInt] at h0 h1 h2 h3 ⊢ <;> omega
    · rename_i c
      repeat' split
      all_goals first | decide | (apply ih <;> simp only [vp_in_iff, ← Int32.toInt_inj, Int32.le_iff_toInt_le, Int32.lt_iff_toInt_lt, Int32.toInt_add, Int32.toInt_sub, Int32.toInt_mul, Int.bmod, Int32.reduceToInt, Nat.reducePow, Int32.toInt_toInt64, Int64.reduceToInt] at h0 h1 h2 h3 c ⊢ <;> omega)
theorem zX2_lettersIn (x0 : Int64) : fX2_lettersIn x0 ≤ 8 := by
  rw [fX2_lettersIn]; exact zX2_lettersIn_l x0 _ _ _ _ (by decide) (by decide) (by decide) (by decide)
abbrev rmX2_lettersIn : Room := { frames := 1, cells := 0, slots := 0, locals := 22 }
set_option maxHeartbeats 4000000 in
set_option maxRecDepth 100000 in
theorem mX2_lettersIn (l : Launch) (dC : Nat → ClassId) (dI : Nat → Nat → Nat) (cyI cyC cyZ : ClassId) (tF tE : Nat) (x0 : Int64) (T : Int32) (hT : fX2_lettersIn x0 = T) : Met l yX2_lettersIn wsX2_lettersIn rmX2_lettersIn (va_Pc [.long x0] (fun U => va_P (dC, dI) vwCl [] U.heap ∧ zE (fun _ => False) dC dI cyI cyC cyZ tF tE U U.heap)) (vp_Si (fun r => r = T)) 0 0 (fun _ => False) := by
  rw [fX2_lettersIn] at hT
  refine z_pi (cc := cX2_lettersIn) (maxL := 6) (post := fun r => r = T) (by decide) rfl (Nat.le_of_ble_eq_true rfl) ?_
  intro p e s m below meth c Q hx hb hml hown hts hB hret ls hl
  obtain ⟨hP, hE⟩ := hB
  have hown : s.vm.findClass RX2 = some m.cls := hown
  have hS : va_S (fun _ => False) s.heap s.heap [] := va_S.rf
  have hl : lv_has ls 6 [(0, .long x0)] := hl
  refine lv_iconst (v := (0 : Int32)) hx hb dX2_lettersIn_0 (by decide) ?_
  refine lv_istore_n (lv' := [(2, .int (0 : Int32)), (0, .long x0)]) hx hb dX2_lettersIn_1 rfl hl (by decide) rfl (fun ls hl => ?_)
  refine lv_iconst (v := (0 : Int32)) hx hb dX2_lettersIn_2 (by decide) ?_
  refine lv_istore_n (lv' := [(3, .int (0 : Int32)), (2, .int (0 : Int32)), (0, .long x0)]) hx hb dX2_lettersIn_3 rfl hl (by decide) rfl (fun ls hl => ?_)
  refine lv_iconst (v := (0 : Int32)) hx hb dX2_lettersIn_4 (by decide) ?_
  refine lv_istore (lv' := [(4, .int (0 : Int32)), (3, .int (0 : Int32)), (2, .int (0 : Int32)), (0, .long x0)]) hx hb dX2_lettersIn_5 hl (by decide) rfl (fun ls hl => ?_)
  have Ll7 : ∀ (n : Nat) (y4_l7 : Int32) (y3_l7 : Int32) (y2_l7 : Int32), 0 ≤ y4_l7 → (((8 : Int32)).toInt - (y4_l7).toInt).toNat < n → ∀ (ls : Array Slot), lv_has ls 6 [(4, .int y4_l7), (3, .int y3_l7), (2, .int y2_l7), (0, .long x0)] → fX2_lettersIn_l7 x0 n y4_l7 y3_l7 y2_l7 = T → W p l e (headSpec wsX2_lettersIn rmX2_lettersIn).room s m ([.long x0] : List Value).toArray below meth c s.heap [] 0 0 Q (F0 m 7 ls []) := by
    intro n
    induction n with
    | zero => intro y4_l7 y3_l7 y2_l7 hIl7_0 hm_; exact absurd hm_ (Nat.not_lt_zero _)
    | succ n ih =>
      intro y4_l7 y3_l7 y2_l7 hIl7_0 hm_ ls hl hT
      rw [fX2_lettersIn_l7] at hT
      refine lv_iload hx hb dX2_lettersIn_7 (lv_at hl 0 rfl) ?_
      refine lv_bipush (v := (8 : Int32)) hx hb dX2_lettersIn_9 (by decide) ?_
      refine lv_icmp_ge (tgt := 59) hx hb dX2_lettersIn_11 (by decide) (fun c_1 => ?_) (fun c_1 => ?_)
      · have hT := (if_pos c_1).symm.trans hT
        refine lv_iload_n hx hb dX2_lettersIn_59 rfl (lv_at hl 2 rfl) ?_
        exact hret _ _ _ dX2_lettersIn_60 hT
      · have hT := (if_neg c_1).symm.trans hT
        refine lv_lload_n hx hb dX2_lettersIn_14 rfl (lv_at hl 3 rfl) ?_
        refine lv_iload hx hb dX2_lettersIn_15 (lv_at hl 0 rfl) ?_
        refine vp_callSi (va_Run.run (va_runS (As := [.long x0, .int y4_l7]) (rest := []) ⟨hx, hb, hml, hown, hts⟩ (mX2_letterOf l dC dI cyI cyC cyZ tF tE x0 y4_l7 _ rfl) (va_cwS 2 hts gX2_lettersIn_X2_letterOf rfl rfl rfl (by decide +kernel) ⟨(Nat.le_of_ble_eq_true rfl), (Nat.le_of_ble_eq_true rfl)⟩) ⟨z_bp, fun U hU hW => ⟨rfl, by rw [hU]; exact hP.sub (ws' := []) [] rfl, hE.to hS (fun _ h => h.elim) hU hW⟩⟩ rfl rfl hl.1 rfl (lv_room (Nat.le_of_ble_eq_true rfl)) dX2_lettersIn_17 ⟨Nat.zero_le _, Nat.zero_le _⟩)) (fun r_2 hr_2 => ?_)
        obtain rfl := hr_2
        refine lv_istore (lv' := [(5, .int (fX2_letterOf x0 y4_l7)), (4, .int y4_l7), (3, .int y3_l7), (2, .int y2_l7), (0, .long x0)]) hx hb dX2_lettersIn_20 hl (by decide) rfl (fun ls hl => ?_)
        refine lv_iload hx hb dX2_lettersIn_22 (lv_at hl 0 rfl) ?_
        refine lv_bipush (v := (126 : Int32)) hx hb dX2_lettersIn_24 (by decide) ?_
        refine lv_icmp_gt (tgt := 38) hx hb dX2_lettersIn_26 (by decide) (fun c_3 => ?_) (fun c_3 => ?_)
        · have hT := (if_pos c_3).symm.trans hT
          refine lv_iconst (v := (-1 : Int32)) hx hb dX2_lettersIn_38 (by decide) ?_
          exact hret _ _ _ dX2_lettersIn_39 hT
        · have hT := (if_neg c_3).symm.trans hT
          refine lv_iload_n hx hb dX2_lettersIn_29 rfl (lv_at hl 2 rfl) ?_
          have Jj40l7 : ∀ (ls : Array Slot), lv_has ls 6 [(5, .int (fX2_letterOf x0 y4_l7)), (4, .int y4_l7), (3, .int y3_l7), (2, .int y2_l7), (0, .long x0)] → (fX2_lettersIn_j40l7 (fun k0_ k1_ k2_ => (fX2_lettersIn_l7 x0 n k0_ k1_ k2_)) x0 y4_l7 y3_l7 y2_l7) = T → W p l e (headSpec wsX2_lettersIn rmX2_lettersIn).room s m ([.long x0] : List Value).toArray below meth c s.heap [] 0 0 Q (F0 m 40 ls []) := by
            intro ls hl hT
            rw [fX2_lettersIn_j40l7] at hT
            refine lv_iload hx hb dX2_lettersIn_40 (lv_at hl 0 rfl) ?_
            refine lv_if_ne (tgt := 50) hx hb dX2_lettersIn_42 (by decide) (fun c_4 => ?_) (fun c_4 => ?_)
            · have hT := (if_neg c_4).symm.trans hT
              refine lv_iinc (v := (y2_l7 + 1)) (lv' := [(2, .int (y2_l7 + 1)), (5, .int (fX2_letterOf x0 y4_l7)), (4, .int y4_l7), (3, .int y3_l7), (0, .long x0)]) hx hb dX2_lettersIn_50 hl (k := 3) rfl rfl (by decide) rfl (fun ls hl => ?_)
              refine lv_iinc (v := (y4_l7 + 1)) (lv' := [(4, .int (y4_l7 + 1)), (2, .int (y2_l7 + 1)), (5, .int (fX2_letterOf x0 y4_l7)), (3, .int y3_l7), (0, .long x0)]) hx hb dX2_lettersIn_53 hl (k := 2) rfl rfl (by decide) rfl (fun ls hl => ?_)
              refine lv_goto (tgt := 7) hx hb dX2_lettersIn_56 (by decide) ?_
              exact ih (y4_l7 + 1) y3_l7 (y2_l7 + 1) (show 0 ≤ (y4_l7 + 1) by simp only [vp_in_iff, ← Int32.toInt_inj, Int32.le_iff_toInt_le, Int32.lt_iff_toInt_lt, Int32.toInt_add, Int32.toInt_sub, Int32.toInt_mul, Int.bmod, Int32.reduceToInt, Nat.reducePow, Int32.toInt_toInt64, Int64.reduceToInt] at hIl7_0 c_1 c_3 c_4 hm_ ⊢ <;> omega) (show (((8 : Int32)).toInt - ((y4_l7 + 1)).toInt).toNat < n by simp only [vp_in_iff, ← Int32.toInt_inj, Int32.le_iff_toInt_le, Int32.lt_iff_toInt_lt, Int32.toInt_add, Int32.toInt_sub, Int32.toInt_mul, Int.bmod, Int32.reduceToInt, Nat.reducePow, Int32.toInt_toInt64, Int64.reduceToInt] at hIl7_0 c_1 c_3 c_4 hm_ ⊢ <;> omega) ls (lv_sub hl [0, 3, 1, 4] rfl) hT
            · have hT := (if_pos c_4).symm.trans hT
              refine lv_iconst (v := (1 : Int32)) hx hb dX2_lettersIn_45 (by decide) ?_
              refine lv_istore_n (lv' := [(3, .int (1 : Int32)), (5, .int (fX2_letterOf x0 y4_l7)), (4, .int y4_l7), (2, .int y2_l7), (0, .long x0)]) hx hb dX2_lettersIn_46 rfl hl (by decide) rfl (fun ls hl => ?_)
              refine lv_goto (tgt := 53) hx hb dX2_lettersIn_47 (by decide) ?_
              refine lv_iinc (v := (y4_l7 + 1)) (lv' := [(4, .int (y4_l7 + 1)), (3, .int (1 : Int32)), (5, .int (fX2_letterOf x0 y4_l7)), (2, .int y2_l7), (0, .long x0)]) hx hb dX2_lettersIn_53 hl (k := 2) rfl rfl (by decide) rfl (fun ls hl => ?_)
              refine lv_goto (tgt := 7) hx hb dX2_lettersIn_56 (by decide) ?_
              exact ih (y4_l7 + 1) (1 : Int32) y2_l7 (show 0 ≤ (y4_l7 + 1) by simp only [vp_in_iff, ← Int32.toInt_inj, Int32.le_iff_toInt_le, Int32.lt_iff_toInt_lt, Int32.toInt_add, Int32.toInt_sub, Int32.toInt_mul, Int.bmod, Int32.reduceToInt, Nat.reducePow, Int32.toInt_toInt64, Int64.reduceToInt] at hIl7_0 c_1 c_3 c_4 hm_ ⊢ <;> omega) (show (((8 : Int32)).toInt - ((y4_l7 + 1)).toInt).toNat < n by simp only [vp_in_iff, ← Int32.toInt_inj, Int32.le_iff_toInt_le, Int32.lt_iff_toInt_lt, Int32.toInt_add, Int32.toInt_sub, Int32.toInt_mul, Int.bmod, Int32.reduceToInt, Nat.reducePow, Int32.toInt_toInt64, Int64.reduceToInt] at hIl7_0 c_1 c_3 c_4 hm_ ⊢ <;> omega) ls (lv_sub hl [0, 1, 3, 4] rfl) hT
          refine lv_if_eq (tgt := 40) hx hb dX2_lettersIn_30 (by decide) (fun c_5 => ?_) (fun c_5 => ?_)
          · have hT := (if_pos c_5).symm.trans hT
            exact Jj40l7 ls (lv_sub hl [0, 1, 2, 3, 4] rfl) hT
          · have hT := (if_neg c_5).symm.trans hT
            refine lv_iload hx hb dX2_lettersIn_33 (lv_at hl 0 rfl) ?_
            refine lv_if_eq (tgt := 40) hx hb dX2_lettersIn_35 (by decide) (fun c_6 => ?_) (fun c_6 => ?_)
            · have hT := (if_pos c_6).symm.trans hT
              exact Jj40l7 ls (lv_sub hl [0, 1, 2, 3, 4] rfl) hT
            · have hT := (if_neg c_6).symm.trans hT
              refine lv_iconst (v := (-1 : Int32)) hx hb dX2_lettersIn_38 (by decide) ?_
              exact hret _ _ _ dX2_lettersIn_39 hT
  exact Ll7 9 (0 : Int32) (0 : Int32) (0 : Int32) (show 0 ≤ (0 : Int32) by simp only [vp_in_iff, ← Int32.toInt_inj, Int32.le_iff_toInt_le, Int32.lt_iff_toInt_lt, Int32.toInt_add, Int32.toInt_sub, Int32.toInt_mul, Int.bmod, Int32.reduceToInt, Nat.reducePow, Int32.toInt_toInt64, Int64.reduceToInt] at ⊢ <;> omega) (show (((8 : Int32)).toInt - ((0 : Int32)).toInt).toNat < 9 by simp only [vp_in_iff, ← Int32.toInt_inj, Int32.le_iff_toInt_le, Int32.lt_iff_toInt_lt, Int32.toInt_add, Int32.toInt_sub, Int32.toInt_mul, Int.bmod, Int32.reduceToInt, Nat.reducePow, Int32.toInt_toInt64, Int64.reduceToInt] at ⊢ <;> omega) ls (lv_sub hl [0, 1, 2, 3] rfl) hT

def fX2_append_l3 (x1 : Int64) (x3 : Int32) : Nat → Int32 → (Nat → Int32) → Int32 → (Nat → Int32) × Int32
  | 0, _, _, _ => ((fun _ => 0), (0 : Int32))
  | n + 1, y4_l3, letters_l3, size_l3 => (if x3 ≤ y4_l3 then (letters_l3, size_l3) else (if (32 : Int32) ≤ size_l3 then (letters_l3, size_l3) else (fX2_append_l3 x1 x3 n (y4_l3 + 1) (upd letters_l3 size_l3.toNatClampNeg (vp_nar .char (ji2c (fX2_letterOf x1 y4_l3)))) (size_l3 + (1 : Int32)))))
def fX2_append_x3 (letters_l3_x : Nat → Int32) (size_l3_x : Int32) : (Nat → Int32) × Int32 := (letters_l3_x, size_l3_x)
def fX2_append (size : Int32) (letters : Nat → Int32) (x1 : Int64) (x3 : Int32) : (Nat → Int32) × Int32 := (fX2_append_x3 ((fX2_append_l3 x1 x3 9 (0 : Int32) letters size).1) ((fX2_append_l3 x1 x3 9 (0 : Int32) letters size).2))
abbrev rmX2_append : Room := { frames := 1, cells := 0, slots := 0, locals := 22 }
theorem eX2_append_0 : ∀ w ∈ u_ws RX2 TX2 2, w ∈ wsX2_append := by decide +kernel
theorem eX2_append_1 : (Cond.fieldLink RX2 15 "LowWater$Page" "size" "I" : Cond) ∈ wsX2_append := by decide +kernel
theorem eX2_append_2 : (Cond.fieldLink RX2 9 "LowWater$Page" "letters" "[C" : Cond) ∈ wsX2_append := by decide +kernel
set_option maxHeartbeats 4000000 in
set_option maxRecDepth 100000 in
theorem mX2_append (l : Launch) (dC : Nat → ClassId) (dI : Nat → Nat → Nat) (cyI cyC cyZ : ClassId) (tF tE : Nat) (a_this : Nat) (a_this_letters : Nat) (sz : Nat) (size : Int32) (letters : Nat → Int32) (x1 : Int64) (x3 : Int32) (h0 : (0 : Int32) ≤ size) (h1 : x3 ≤ 8) (T : (Nat → Int32) × Int32) (hT : fX2_append size letters x1 x3 = T) : Met l yX2_append wsX2_append rmX2_append (va_Pc [.ref a_this, .long x1, .int x3] (fun U => U.heap.size = sz ∧ va_P (dC, dI) vwCl [(a_this, .inr (2, [.ref a_this_letters, .int size])), (a_this_letters, .inl (cyC, 32, .inl letters))] U.heap ∧ va_D (fun _ => True) [(a_this, .inr (2, [.ref a_this_letters, .int size])), (a_this_letters, .inl (cyC, 32, .inl letters))] ∧ zE (va_A [(a_this, .inr (2, [.ref a_this_letters, .int size])), (a_this_letters, .inl (cyC, 32, .inl letters))] sz) dC dI cyI cyC cyZ tF tE U U.heap)) (va_Qv (fun (u : (Nat → Int32) × Int32) => u = T) (fun u t => va_P (dC, dI) vwCl [(a_this, .inr (2, [.ref a_this_letters, .int u.2])), (a_this_letters, .inl (cyC, 32, .inl u.1))] t.heap ∧ va_K (dC, dI) vwCl (zY cyI cyC cyZ) t ∧ va_D (va_A [(a_this, .inr (2, [.ref a_this_letters, .int size])), (a_this_letters, .inl (cyC, 32, .inl letters))] sz) [(a_this, .inr (2, [.ref a_this_letters, .int u.2])), (a_this_letters, .inl (cyC, 32, .inl u.1))]) (va_A [(a_this, .inr (2, [.ref a_this_letters, .int size])), (a_this_letters, .inl (cyC, 32, .inl letters))] sz)) 0 0 (va_A [(a_this, .inr (2, [.ref a_this_letters, .int size])), (a_this_letters, .inl (cyC, 32, .inl letters))] sz) := by
  rw [fX2_append] at hT
  refine z_wv (cc := cX2_append) (maxL := 5) (B := fun A U => zE A dC dI cyI cyC cyZ tF tE U U.heap) (post := (fun (u : (Nat → Int32) × Int32) => u = T)) (Bq := (fun A u t => va_P (dC, dI) vwCl [(a_this, .inr (2, [.ref a_this_letters, .int u.2])), (a_this_letters, .inl (cyC, 32, .inl u.1))] t.heap ∧ va_K (dC, dI) vwCl (zY cyI cyC cyZ) t ∧ va_D A [(a_this, .inr (2, [.ref a_this_letters, .int u.2])), (a_this_letters, .inl (cyC, 32, .inl u.1))])) (by decide) rfl (Nat.le_of_ble_eq_true rfl) ?_
  intro p e s m below meth c Q A hx hb hml hown hin hts hP hD hE hA hret ls hl
  have hown : s.vm.findClass RX2 = some m.cls := hown
  have hS : va_S A s.heap s.heap [] := va_S.rf
  have hl : lv_has ls 5 [(0, .ref a_this), (1, .long x1), (3, .int x3)] := hl
  refine lv_iconst (v := (0 : Int32)) hx hb dX2_append_0 (by decide) ?_
  refine lv_istore (lv' := [(4, .int (0 : Int32)), (0, .ref a_this), (1, .long x1), (3, .int x3)]) hx hb dX2_append_1 hl (by decide) rfl (fun ls hl => ?_)
  have Ll3 : ∀ (n : Nat) (y4_l3 : Int32) (letters_l3 : Nat → Int32) (size_l3 : Int32), 0 ≤ y4_l3 → 0 ≤ size_l3 → ((x3).toInt - (y4_l3).toInt).toNat < n → ∀ (T_l3 : (Nat → Int32) × Int32), fX2_append_l3 x1 x3 n y4_l3 letters_l3 size_l3 = T_l3 → (∀ (H : Heap) (locs : List Loc), va_P (dC, dI) vwCl [(a_this, .inr (2, [.ref a_this_letters, .int T_l3.2])), (a_this_letters, .inl (cyC, 32, .inl T_l3.1))] H → va_D A [(a_this, .inr (2, [.ref a_this_letters, .int T_l3.2])), (a_this_letters, .inl (cyC, 32, .inl T_l3.1))] → va_S A s.heap H locs → ∀ (ls : Array Slot), lv_has ls 5 [] → W p l e (headSpec wsX2_append rmX2_append).room s m ([.ref a_this, .long x1, .int x3] : List Value).toArray below meth c H locs 0 0 Q (F0 m 50 ls [])) → ∀ (H : Heap) (locs : List Loc), va_P (dC, dI) vwCl [(a_this, .inr (2, [.ref a_this_letters, .int size_l3])), (a_this_letters, .inl (cyC, 32, .inl letters_l3))] H → va_D A [(a_this, .inr (2, [.ref a_this_letters, .int size_l3])), (a_this_letters, .inl (cyC, 32, .inl letters_l3))] → va_S A s.heap H locs → ∀ (ls : Array Slot), lv_has ls 5 [(4, .int y4_l3), (0, .ref a_this), (1, .long x1), (3, .int x3)] → W p l e (headSpec wsX2_append rmX2_append).room s m ([.ref a_this, .long x1, .int x3] : List Value).toArray below meth c H locs 0 0 Q (F0 m 3 ls []) := by
    intro n
    induction n with
    | zero => intro y4_l3 letters_l3 size_l3 hIl3_0 hIl3_1 hm_; exact absurd hm_ (Nat.not_lt_zero _)
    | succ n ih =>
      intro y4_l3 letters_l3 size_l3 hIl3_0 hIl3_1 hm_ T_l3 hT hK_ H locs hP hD hS ls hl
      rw [fX2_append_l3] at hT
      refine lv_iload hx hb dX2_append_3 (lv_at hl 0 rfl) ?_
      refine lv_iload_n hx hb dX2_append_5 rfl (lv_at hl 3 rfl) ?_
      refine lv_icmp_ge (tgt := 50) hx hb dX2_append_6 (by decide) (fun c_1 => ?_) (fun c_1 => ?_)
      · have hT := (if_pos c_1).symm.trans hT
        subst hT
        exact hK_ _ _ hP hD hS ls (lv_sub hl [] rfl)
      · have hT := (if_neg c_1).symm.trans hT
        refine lv_aload_n hx hb dX2_append_9 rfl (lv_at hl 1 rfl) ?_
        refine va_get (D := (dC, dI)) (ci := 2) (v := .int size_l3) (C := RX2) (T := TX2) (N := 2) hx hb hts eX2_append_0 hown hE.1 hP 0 rfl rfl 1 (by decide) (hts _ eX2_append_1) (fun _ h9 => h9) rfl dX2_append_10 ?_
        refine lv_bipush (v := (32 : Int32)) hx hb dX2_append_13 (by decide) ?_
        refine lv_icmp_ge (tgt := 50) hx hb dX2_append_15 (by decide) (fun c_2 => ?_) (fun c_2 => ?_)
        · have hT := (if_pos c_2).symm.trans hT
          subst hT
          exact hK_ _ _ hP hD hS ls (lv_sub hl [] rfl)
        · have hT := (if_neg c_2).symm.trans hT
          refine lv_aload_n hx hb dX2_append_18 rfl (lv_at hl 1 rfl) ?_
          refine va_get (D := (dC, dI)) (ci := 2) (v := .ref a_this_letters) (C := RX2) (T := TX2) (N := 2) hx hb hts eX2_append_0 hown hE.1 hP 0 rfl rfl 0 (by decide) (hts _ eX2_append_2) (fun _ h9 => h9) rfl dX2_append_19 ?_
          refine lv_aload_n hx hb dX2_append_22 rfl (lv_at hl 1 rfl) ?_
          refine va_get (D := (dC, dI)) (ci := 2) (v := .int size_l3) (C := RX2) (T := TX2) (N := 2) hx hb hts eX2_append_0 hown hE.1 hP 0 rfl rfl 1 (by decide) (hts _ eX2_append_1) (fun _ h9 => h9) rfl dX2_append_23 ?_
          refine lv_lload_n hx hb dX2_append_26 rfl (lv_at hl 2 rfl) ?_
          refine lv_iload hx hb dX2_append_27 (lv_at hl 0 rfl) ?_
          refine vp_callSi (va_Run.run (va_runS (As := [.long x1, .int y4_l3]) (rest := [.int size_l3, .ref a_this_letters]) ⟨hx, hb, hml, hown, hts⟩ (mX2_letterOf l dC dI cyI cyC cyZ tF tE x1 y4_l3 _ rfl) (va_cwS 2 hts gX2_append_X2_letterOf rfl rfl rfl (by decide +kernel) ⟨(Nat.le_of_ble_eq_true rfl), (Nat.le_of_ble_eq_true rfl)⟩) ⟨z_bp, fun U hU hW => ⟨rfl, by rw [hU]; exact hP.sub (ws' := []) [] rfl, hE.to hS (fun _ h => h.elim) hU hW⟩⟩ rfl rfl hl.1 rfl (lv_room (Nat.le_of_ble_eq_true rfl)) dX2_append_29 ⟨Nat.zero_le _, Nat.zero_le _⟩)) (fun r_3 hr_3 => ?_)
          obtain rfl := hr_3
          refine lv_i2c (v := ji2c (fX2_letterOf x1 y4_l3)) hx hb dX2_append_32 rfl ?_
          refine va_cast hx hb hE.1 hP hD hS 1 1 rfl rfl (show vp_in size_l3 32 by simp only [vp_in_iff, ← Int32.toInt_inj, Int32.le_iff_toInt_le, Int32.lt_iff_toInt_lt, Int32.toInt_add, Int32.toInt_sub, Int32.toInt_mul, Int.bmod, Int32.reduceToInt, Nat.reducePow, Int32.toInt_toInt64, Int64.reduceToInt] at h0 h1 hIl3_0 hIl3_1 c_1 c_2 ⊢ <;> omega) dX2_append_33 (fun H locs hP hD hS => ?_)
          have hP : va_P (dC, dI) vwCl [(a_this, .inr (2, [.ref a_this_letters, .int size_l3])), (a_this_letters, .inl (cyC, 32, .inl (upd letters_l3 size_l3.toNatClampNeg (vp_nar .char (ji2c (fX2_letterOf x1 y4_l3))))))] H := hP
          have hD : va_D A [(a_this, .inr (2, [.ref a_this_letters, .int size_l3])), (a_this_letters, .inl (cyC, 32, .inl (upd letters_l3 size_l3.toNatClampNeg (vp_nar .char (ji2c (fX2_letterOf x1 y4_l3))))))] := hD
          refine lv_aload_n hx hb dX2_append_34 rfl (lv_at hl 1 rfl) ?_
          refine lv_dup hx hb dX2_append_35 rfl ?_
          refine va_get (D := (dC, dI)) (ci := 2) (v := .int size_l3) (C := RX2) (T := TX2) (N := 2) hx hb hts eX2_append_0 hown hE.1 hP 0 rfl rfl 1 (by decide) (hts _ eX2_append_1) (fun _ h9 => h9) rfl dX2_append_36 ?_
          refine lv_iconst (v := (1 : Int32)) hx hb dX2_append_39 (by decide) ?_
          refine lv_iadd hx hb dX2_append_40 ?_
          refine va_put (D := (dC, dI)) (ci := 2) (v := .int (size_l3 + (1 : Int32))) (ty := .int) (C := RX2) (T := TX2) (N := 2) hx hb hts eX2_append_0 tyX2 tyX2_ok nmX2 hown hE.1 hP hD hS 0 rfl rfl 1 (by decide) (hts _ eX2_append_1) (fun _ h9 => h9) rfl (by decide +kernel) rfl rfl (Nat.le_of_ble_eq_true rfl) dX2_append_41 (fun H locs hP hD hS => ?_)
          have hP : va_P (dC, dI) vwCl [(a_this, .inr (2, [.ref a_this_letters, .int (size_l3 + (1 : Int32))])), (a_this_letters, .inl (cyC, 32, .inl (upd letters_l3 size_l3.toNatClampNeg (vp_nar .char (ji2c (fX2_letterOf x1 y4_l3))))))] H := hP
          have hD : va_D A [(a_this, .inr (2, [.ref a_this_letters, .int (size_l3 + (1 : Int32))])), (a_this_letters, .inl (cyC, 32, .inl (upd letters_l3 size_l3.toNatClampNeg (vp_nar .char (ji2c (fX2_letterOf x1 y4_l3))))))] := hD
          refine lv_iinc (v := (y4_l3 + 1)) (lv' := [(4, .int (y4_l3 + 1)), (0, .ref a_this), (1, .long x1), (3, .int x3)]) hx hb dX2_append_44 hl (k := 0) rfl rfl (by decide) rfl (fun ls hl => ?_)
          refine lv_goto (tgt := 3) hx hb dX2_append_47 (by decide) ?_
          exact ih (y4_l3 + 1) (upd letters_l3 size_l3.toNatClampNeg (vp_nar .char (ji2c (fX2_letterOf x1 y4_l3)))) (size_l3 + (1 : Int32)) (show 0 ≤ (y4_l3 + 1) by simp only [vp_in_iff, ← Int32.toInt_inj, Int32.le_iff_toInt_le, Int32.lt_iff_toInt_lt, Int32.toInt_add, Int32.toInt_sub, Int32.toInt_mul, Int.bmod, Int32.reduceToInt, Nat.reducePow, Int32.toInt_toInt64, Int64.reduceToInt] at h0 h1 hIl3_0 hIl3_1 c_1 c_2 hm_ ⊢ <;> omega) (show 0 ≤ (size_l3 + (1 : Int32)) by simp only [vp_in_iff, ← Int32.toInt_inj, Int32.le_iff_toInt_le, Int32.lt_iff_toInt_lt, Int32.toInt_add, Int32.toInt_sub, Int32.toInt_mul, Int.bmod, Int32.reduceToInt, Nat.reducePow, Int32.toInt_toInt64, Int64.reduceToInt] at h0 h1 hIl3_0 hIl3_1 c_1 c_2 hm_ ⊢ <;> omega) (show ((x3).toInt - ((y4_l3 + 1)).toInt).toNat < n by simp only [vp_in_iff, ← Int32.toInt_inj, Int32.le_iff_toInt_le, Int32.lt_iff_toInt_lt, Int32.toInt_add, Int32.toInt_sub, Int32.toInt_mul, Int.bmod, Int32.reduceToInt, Nat.reducePow, Int32.toInt_toInt64, Int64.reduceToInt] at h0 h1 hIl3_0 hIl3_1 c_1 c_2 hm_ ⊢ <;> omega) _ hT hK_ _ _ hP hD hS ls (lv_sub hl [0, 1, 2, 3] rfl)
  have Xl3 : ∀ (letters_l3_x : Nat → Int32) (size_l3_x : Int32), ∀ (H : Heap) (locs : List Loc), va_P (dC, dI) vwCl [(a_this, .inr (2, [.ref a_this_letters, .int size_l3_x])), (a_this_letters, .inl (cyC, 32, .inl letters_l3_x))] H → va_D A [(a_this, .inr (2, [.ref a_this_letters, .int size_l3_x])), (a_this_letters, .inl (cyC, 32, .inl letters_l3_x))] → va_S A s.heap H locs → ∀ (ls : Array Slot), lv_has ls 5 [] → (fX2_append_x3 letters_l3_x size_l3_x) = T → W p l e (headSpec wsX2_append rmX2_append).room s m ([.ref a_this, .long x1, .int x3] : List Value).toArray below meth c H locs 0 0 Q (F0 m 50 ls []) := by
    intro letters_l3_x size_l3_x H locs hP hD hS ls hl hT
    rw [fX2_append_x3] at hT
    subst hT
    exact hret (letters_l3_x, size_l3_x) _ _ _ _ dX2_append_50 rfl hS (fun t ht ha => ⟨by rw [ht]; exact hP, va_K.moved ha hE.1, hD⟩)
  refine Ll3 9 (0 : Int32) letters size (show 0 ≤ (0 : Int32) by simp only [vp_in_iff, ← Int32.toInt_inj, Int32.le_iff_toInt_le, Int32.lt_iff_toInt_lt, Int32.toInt_add, Int32.toInt_sub, Int32.toInt_mul, Int.bmod, Int32.reduceToInt, Nat.reducePow, Int32.toInt_toInt64, Int64.reduceToInt] at h0 h1 ⊢ <;> omega) (show 0 ≤ size by simp only [vp_in_iff, ← Int32.toInt_inj, Int32.le_iff_toInt_le, Int32.lt_iff_toInt_lt, Int32.toInt_add, Int32.toInt_sub, Int32.toInt_mul, Int.bmod, Int32.reduceToInt, Nat.reducePow, Int32.toInt_toInt64, Int64.reduceToInt] at h0 h1 ⊢ <;> omega) (show ((x3).toInt - ((0 : Int32)).toInt).toNat < 9 by simp only [vp_in_iff, ← Int32.toInt_inj, Int32.le_iff_toInt_le, Int32.lt_iff_toInt_lt, Int32.toInt_add, Int32.toInt_sub, Int32.toInt_mul, Int.bmod, Int32.reduceToInt, Nat.reducePow, Int32.toInt_toInt64, Int64.reduceToInt] at h0 h1 ⊢ <;> omega) (fX2_append_l3 x1 x3 9 (0 : Int32) letters size) rfl ?_ _ _ hP hD hS ls (lv_sub hl [0, 1, 2, 3] rfl)
  intro H locs hP hD hS ls hl
  exact Xl3 ((fX2_append_l3 x1 x3 9 (0 : Int32) letters size).1) ((fX2_append_l3 x1 x3 9 (0 : Int32) letters size).2) _ _ hP hD hS ls hl hT

def fX2_isDigit (x0 : Int32) : Int32 := (if x0 < (48 : Int32) then (0 : Int32) else (if (57 : Int32) < x0 then (0 : Int32) else (1 : Int32)))
abbrev rmX2_isDigit : Room := { frames := 0, cells := 0, slots := 0, locals := 0 }
set_option maxHeartbeats 4000000 in
set_option maxRecDepth 100000 in
theorem mX2_isDigit (l : Launch) (dC : Nat → ClassId) (dI : Nat → Nat → Nat) (cyI cyC cyZ : ClassId) (tF tE : Nat) (x0 : Int32) (T : Int32) (hT : fX2_isDigit x0 = T) : Met l yX2_isDigit wsX2_isDigit rmX2_isDigit (va_Pc [.int x0] (fun U => va_P (dC, dI) vwCl [] U.heap ∧ zE (fun _ => False) dC dI cyI cyC cyZ tF tE U U.heap)) (vp_Si (fun r => r = T ∧ (r = 0 ∨ r = 1))) 0 0 (fun _ => False) := by
  rw [fX2_isDigit] at hT
  refine z_pz (cc := cX2_isDigit) (maxL := 1) (post := fun r => r = T) (by decide) rfl (Nat.le_of_ble_eq_true rfl) ?_
  intro p e s m below meth c Q hx hb hml hown hts hB hret ls hl
  obtain ⟨hP, hE⟩ := hB
  have hown : s.vm.findClass RX2 = some m.cls := hown
  have hS : va_S (fun _ => False) s.heap s.heap [] := va_S.rf
  have hl : lv_has ls 1 [(0, .int x0)] := hl
  refine lv_iload_n hx hb dX2_isDigit_0 rfl (lv_at hl 0 rfl) ?_
  refine lv_bipush (v := (48 : Int32)) hx hb dX2_isDigit_1 (by decide) ?_
  refine lv_icmp_lt (tgt := 16) hx hb dX2_isDigit_3 (by decide) (fun c_1 => ?_) (fun c_1 => ?_)
  · have hT := (if_pos c_1).symm.trans hT
    refine lv_iconst (v := (0 : Int32)) hx hb dX2_isDigit_16 (by decide) ?_
    exact hret _ _ _ (Or.inl rfl) dX2_isDigit_17 hT
  · have hT := (if_neg c_1).symm.trans hT
    refine lv_iload_n hx hb dX2_isDigit_6 rfl (lv_at hl 0 rfl) ?_
    refine lv_bipush (v := (57 : Int32)) hx hb dX2_isDigit_7 (by decide) ?_
    refine lv_icmp_gt (tgt := 16) hx hb dX2_isDigit_9 (by decide) (fun c_2 => ?_) (fun c_2 => ?_)
    · have hT := (if_pos c_2).symm.trans hT
      refine lv_iconst (v := (0 : Int32)) hx hb dX2_isDigit_16 (by decide) ?_
      exact hret _ _ _ (Or.inl rfl) dX2_isDigit_17 hT
    · have hT := (if_neg c_2).symm.trans hT
      refine lv_iconst (v := (1 : Int32)) hx hb dX2_isDigit_12 (by decide) ?_
      refine lv_goto (tgt := 17) hx hb dX2_isDigit_13 (by decide) ?_
      exact hret _ _ _ (Or.inr rfl) dX2_isDigit_17 hT

def fX2_stairBit (x0 : Int32) : Int32 := (if (fX5_isCell (x0 - (48 : Int32))) = 0 then (0 : Int32) else (jshl (1 : Int32) (x0 - (48 : Int32))))
abbrev rmX2_stairBit : Room := { frames := 1, cells := 0, slots := 0, locals := 20 }
theorem eX2_stairBit_0 : (Cond.initialized RX5 : Cond) ∈ wsX2_stairBit := by decide +kernel
theorem eX2_stairBit_1 : (Cond.static yX5_isCell : Cond) ∈ wsX2_stairBit := by decide +kernel
set_option maxHeartbeats 4000000 in
set_option maxRecDepth 100000 in
theorem mX2_stairBit (l : Launch) (dC : Nat → ClassId) (dI : Nat → Nat → Nat) (cyI cyC cyZ : ClassId) (tF tE : Nat) (x0 : Int32) (T : Int32) (hT : fX2_stairBit x0 = T) : Met l yX2_stairBit wsX2_stairBit rmX2_stairBit (va_Pc [.int x0] (fun U => va_P (dC, dI) vwCl [] U.heap ∧ zE (fun _ => False) dC dI cyI cyC cyZ tF tE U U.heap)) (vp_Si (fun r => r = T)) 0 0 (fun _ => False) := by
  rw [fX2_stairBit] at hT
  refine z_pi (cc := cX2_stairBit) (maxL := 1) (post := fun r => r = T) (by decide) rfl (Nat.le_of_ble_eq_true rfl) ?_
  intro p e s m below meth c Q hx hb hml hown hts hB hret ls hl
  obtain ⟨hP, hE⟩ := hB
  have hown : s.vm.findClass RX2 = some m.cls := hown
  have hS : va_S (fun _ => False) s.heap s.heap [] := va_S.rf
  have hl : lv_has ls 1 [(0, .int x0)] := hl
  refine lv_iload_n hx hb dX2_stairBit_0 rfl (lv_at hl 0 rfl) ?_
  refine lv_bipush (v := (48 : Int32)) hx hb dX2_stairBit_1 (by decide) ?_
  refine lv_isub hx hb dX2_stairBit_3 ?_
  refine vp_callSi (va_Run.run (va_runSN (As := [.int (x0 - (48 : Int32))]) (rest := []) ⟨hx, hb, hml, hown, hts⟩ (mX5_isCell l dC dI cyI cyC cyZ tF tE (x0 - (48 : Int32)) _ rfl) ⟨va_cnB 1 hts gX2_stairBit_X5_isCell_n44 rfl rfl rfl (zN_X2_44 (zE_N hE)) (hts _ eX2_stairBit_0) (by decide +kernel) ⟨(Nat.le_of_ble_eq_true rfl), (Nat.le_of_ble_eq_true rfl)⟩, (hts _ eX2_stairBit_1), trivial⟩ ⟨z_bp, fun U hU hW => ⟨rfl, by rw [hU]; exact hP.sub (ws' := []) [] rfl, hE.to hS (fun _ h => h.elim) hU hW⟩⟩ rfl rfl hl.1 rfl (lv_room (Nat.le_of_ble_eq_true rfl)) dX2_stairBit_4 ⟨Nat.zero_le _, Nat.zero_le _⟩)) (fun r_1 hr_1 => ?_)
  obtain ⟨rfl, hb_1⟩ := hr_1
  have hq_1 := zX5_isCell (x0 - (48 : Int32)) 
  refine lv_if_eq (tgt := 19) hx hb dX2_stairBit_7 (by decide) (fun c_2 => ?_) (fun c_2 => ?_)
  · have hT := (if_pos c_2).symm.trans hT
    refine lv_iconst (v := (0 : Int32)) hx hb dX2_stairBit_19 (by decide) ?_
    exact hret _ _ _ dX2_stairBit_20 hT
  · have hT := (if_neg c_2).symm.trans hT
    refine lv_iconst (v := (1 : Int32)) hx hb dX2_stairBit_10 (by decide) ?_
    refine lv_iload_n hx hb dX2_stairBit_11 rfl (lv_at hl 0 rfl) ?_
    refine lv_bipush (v := (48 : Int32)) hx hb dX2_stairBit_12 (by decide) ?_
    refine lv_isub hx hb dX2_stairBit_14 ?_
    refine lv_ishl hx hb dX2_stairBit_15 ?_
    refine lv_topi (fun v_3 ev_3 => ?_)
    obtain rfl : v_3 = (jshl (1 : Int32) (x0 - (48 : Int32))) := ev_3
    refine lv_goto (tgt := 20) hx hb dX2_stairBit_16 (by decide) ?_
    exact hret _ _ _ dX2_stairBit_20 hT

def fX2_isNewStair (x0 : Int32) (x1 : Int32) : Int32 := (if (fX2_stairBit x0) = 0 then (0 : Int32) else (if (x1 &&& (fX2_stairBit x0)) = 0 then (1 : Int32) else (0 : Int32)))
abbrev rmX2_isNewStair : Room := { frames := 2, cells := 0, slots := 0, locals := 40 }
set_option maxHeartbeats 4000000 in
set_option maxRecDepth 100000 in
theorem mX2_isNewStair (l : Launch) (dC : Nat → ClassId) (dI : Nat → Nat → Nat) (cyI cyC cyZ : ClassId) (tF tE : Nat) (x0 : Int32) (x1 : Int32) (T : Int32) (hT : fX2_isNewStair x0 x1 = T) : Met l yX2_isNewStair wsX2_isNewStair rmX2_isNewStair (va_Pc [.int x0, .int x1] (fun U => va_P (dC, dI) vwCl [] U.heap ∧ zE (fun _ => False) dC dI cyI cyC cyZ tF tE U U.heap)) (vp_Si (fun r => r = T ∧ (r = 0 ∨ r = 1))) 0 0 (fun _ => False) := by
  rw [fX2_isNewStair] at hT
  refine z_pz (cc := cX2_isNewStair) (maxL := 3) (post := fun r => r = T) (by decide) rfl (Nat.le_of_ble_eq_true rfl) ?_
  intro p e s m below meth c Q hx hb hml hown hts hB hret ls hl
  obtain ⟨hP, hE⟩ := hB
  have hown : s.vm.findClass RX2 = some m.cls := hown
  have hS : va_S (fun _ => False) s.heap s.heap [] := va_S.rf
  have hl : lv_has ls 3 [(0, .int x0), (1, .int x1)] := hl
  refine lv_iload_n hx hb dX2_isNewStair_0 rfl (lv_at hl 0 rfl) ?_
  refine vp_callSi (va_Run.run (va_runS (As := [.int x0]) (rest := []) ⟨hx, hb, hml, hown, hts⟩ (mX2_stairBit l dC dI cyI cyC cyZ tF tE x0 _ rfl) (va_cwS 1 hts gX2_isNewStair_X2_stairBit rfl rfl rfl (by decide +kernel) ⟨(Nat.le_of_ble_eq_true rfl), (Nat.le_of_ble_eq_true rfl)⟩) ⟨z_bp, fun U hU hW => ⟨rfl, by rw [hU]; exact hP.sub (ws' := []) [] rfl, hE.to hS (fun _ h => h.elim) hU hW⟩⟩ rfl rfl hl.1 rfl (lv_room (Nat.le_of_ble_eq_true rfl)) dX2_isNewStair_1 ⟨Nat.zero_le _, Nat.zero_le _⟩)) (fun r_1 hr_1 => ?_)
  obtain rfl := hr_1
  refine lv_istore_n (lv' := [(2, .int (fX2_stairBit x0)), (0, .int x0), (1, .int x1)]) hx hb dX2_isNewStair_4 rfl hl (by decide) rfl (fun ls hl => ?_)
  refine lv_iload_n hx hb dX2_isNewStair_5 rfl (lv_at hl 0 rfl) ?_
  refine lv_if_eq (tgt := 19) hx hb dX2_isNewStair_6 (by decide) (fun c_2 => ?_) (fun c_2 => ?_)
  · have hT := (if_pos c_2).symm.trans hT
    refine lv_iconst (v := (0 : Int32)) hx hb dX2_isNewStair_19 (by decide) ?_
    exact hret _ _ _ (Or.inl rfl) dX2_isNewStair_20 hT
  · have hT := (if_neg c_2).symm.trans hT
    refine lv_iload_n hx hb dX2_isNewStair_9 rfl (lv_at hl 2 rfl) ?_
    refine lv_iload_n hx hb dX2_isNewStair_10 rfl (lv_at hl 0 rfl) ?_
    refine lv_iand hx hb dX2_isNewStair_11 ?_
    refine lv_if_ne (tgt := 19) hx hb dX2_isNewStair_12 (by decide) (fun c_3 => ?_) (fun c_3 => ?_)
    · have hT := (if_neg c_3).symm.trans hT
      refine lv_iconst (v := (0 : Int32)) hx hb dX2_isNewStair_19 (by decide) ?_
      exact hret _ _ _ (Or.inl rfl) dX2_isNewStair_20 hT
    · have hT := (if_pos c_3).symm.trans hT
      refine lv_iconst (v := (1 : Int32)) hx hb dX2_isNewStair_15 (by decide) ?_
      refine lv_goto (tgt := 20) hx hb dX2_isNewStair_16 (by decide) ?_
      exact hret _ _ _ (Or.inr rfl) dX2_isNewStair_20 hT

def fX2_faultPlace_j131l6 (k_ : Int32 → Int32 → Int32 → Int32) (y3_l6 : Int32) (y2_j131l6 : Int32) (y1_j131l6 : Int32) (y5_j131l6 : Int32) : Int32 := (if y5_j131l6 = 0 then y3_l6 else (k_ (y3_l6 + 1) y2_j131l6 y1_j131l6))
def fX2_faultPlace_l6 (size : Int32) (letters : Nat → Int32) : Nat → Int32 → Int32 → Int32 → Int32
  | 0, _, _, _ => (0 : Int32)
  | n + 1, y3_l6, y2_l6, y1_l6 => (if size ≤ y3_l6 then size else (if (8 : Int32) ≤ y3_l6 then (if y3_l6 = (8 : Int32) then (if (letters y3_l6.toNatClampNeg) = (59 : Int32) then (fX2_faultPlace_j131l6 (fun k0_ k1_ k2_ => (fX2_faultPlace_l6 size letters n k0_ k1_ k2_)) y3_l6 y2_l6 y1_l6 (1 : Int32)) else (fX2_faultPlace_j131l6 (fun k0_ k1_ k2_ => (fX2_faultPlace_l6 size letters n k0_ k1_ k2_)) y3_l6 y2_l6 y1_l6 (0 : Int32))) else (if y2_l6 = (-1 : Int32) then (if (letters y3_l6.toNatClampNeg) = (59 : Int32) then (if y1_l6 = 0 then (fX2_faultPlace_j131l6 (fun k0_ k1_ k2_ => (fX2_faultPlace_l6 size letters n k0_ k1_ k2_)) y3_l6 y3_l6 y1_l6 (0 : Int32)) else (fX2_faultPlace_j131l6 (fun k0_ k1_ k2_ => (fX2_faultPlace_l6 size letters n k0_ k1_ k2_)) y3_l6 y3_l6 y1_l6 (1 : Int32))) else (fX2_faultPlace_j131l6 (fun k0_ k1_ k2_ => (fX2_faultPlace_l6 size letters n k0_ k1_ k2_)) y3_l6 y2_l6 (y1_l6 ||| (fX2_stairBit (letters y3_l6.toNatClampNeg))) (fX2_isNewStair (letters y3_l6.toNatClampNeg) y1_l6))) else (if (fX2_isDigit (letters y3_l6.toNatClampNeg)) = 0 then (fX2_faultPlace_j131l6 (fun k0_ k1_ k2_ => (fX2_faultPlace_l6 size letters n k0_ k1_ k2_)) y3_l6 y2_l6 y1_l6 (0 : Int32)) else (if (12 : Int32) < (y3_l6 - y2_l6) then (fX2_faultPlace_j131l6 (fun k0_ k1_ k2_ => (fX2_faultPlace_l6 size letters n k0_ k1_ k2_)) y3_l6 y2_l6 y1_l6 (0 : Int32)) else (fX2_faultPlace_j131l6 (fun k0_ k1_ k2_ => (fX2_faultPlace_l6 size letters n k0_ k1_ k2_)) y3_l6 y2_l6 y1_l6 (1 : Int32)))))) else (fX2_faultPlace_j131l6 (fun k0_ k1_ k2_ => (fX2_faultPlace_l6 size letters n k0_ k1_ k2_)) y3_l6 y2_l6 y1_l6 (fX2_isDigit (letters y3_l6.toNatClampNeg)))))
def fX2_faultPlace (size : Int32) (letters : Nat → Int32) : Int32 := (fX2_faultPlace_l6 size letters 33 (0 : Int32) (-1 : Int32) (0 : Int32))
abbrev rmX2_faultPlace : Room := { frames := 3, cells := 0, slots := 0, locals := 62 }
theorem eX2_faultPlace_0 : ∀ w ∈ u_ws RX2 TX2 2, w ∈ wsX2_faultPlace := by decide +kernel
theorem eX2_faultPlace_1 : (Cond.fieldLink RX2 15 "LowWater$Page" "size" "I" : Cond) ∈ wsX2_faultPlace := by decide +kernel
theorem eX2_faultPlace_2 : (Cond.fieldLink RX2 9 "LowWater$Page" "letters" "[C" : Cond) ∈ wsX2_faultPlace := by decide +kernel
set_option maxHeartbeats 4000000 in
set_option maxRecDepth 100000 in
theorem mX2_faultPlace (l : Launch) (dC : Nat → ClassId) (dI : Nat → Nat → Nat) (cyI cyC cyZ : ClassId) (tF tE : Nat) (a_this : Nat) (a_this_letters : Nat) (size : Int32) (letters : Nat → Int32) (h0 : size ≤ 32) (T : Int32) (hT : fX2_faultPlace size letters = T) : Met l yX2_faultPlace wsX2_faultPlace rmX2_faultPlace (va_Pc [.ref a_this] (fun U => va_P (dC, dI) vwCl [(a_this, .inr (2, [.ref a_this_letters, .int size])), (a_this_letters, .inl (cyC, 32, .inl letters))] U.heap ∧ zE (fun _ => False) dC dI cyI cyC cyZ tF tE U U.heap)) (vp_Si (fun r => r = T)) 0 0 (fun _ => False) := by
  rw [fX2_faultPlace] at hT
  refine z_pi (cc := cX2_faultPlace) (maxL := 6) (post := fun r => r = T) (by decide) rfl (Nat.le_of_ble_eq_true rfl) ?_
  intro p e s m below meth c Q hx hb hml hown hts hB hret ls hl
  obtain ⟨hP, hE⟩ := hB
  have hown : s.vm.findClass RX2 = some m.cls := hown
  have hS : va_S (fun _ => False) s.heap s.heap [] := va_S.rf
  have hl : lv_has ls 6 [(0, .ref a_this)] := hl
  refine lv_iconst (v := (0 : Int32)) hx hb dX2_faultPlace_0 (by decide) ?_
  refine lv_istore_n (lv' := [(1, .int (0 : Int32)), (0, .ref a_this)]) hx hb dX2_faultPlace_1 rfl hl (by decide) rfl (fun ls hl => ?_)
  refine lv_iconst (v := (-1 : Int32)) hx hb dX2_faultPlace_2 (by decide) ?_
  refine lv_istore_n (lv' := [(2, .int (-1 : Int32)), (1, .int (0 : Int32)), (0, .ref a_this)]) hx hb dX2_faultPlace_3 rfl hl (by decide) rfl (fun ls hl => ?_)
  refine lv_iconst (v := (0 : Int32)) hx hb dX2_faultPlace_4 (by decide) ?_
  refine lv_istore_n (lv' := [(3, .int (0 : Int32)), (2, .int (-1 : Int32)), (1, .int (0 : Int32)), (0, .ref a_this)]) hx hb dX2_faultPlace_5 rfl hl (by decide) rfl (fun ls hl => ?_)
  have Ll6 : ∀ (n : Nat) (y3_l6 : Int32) (y2_l6 : Int32) (y1_l6 : Int32), 0 ≤ y3_l6 → ((size).toInt - (y3_l6).toInt).toNat < n → ∀ (ls : Array Slot), lv_has ls 6 [(3, .int y3_l6), (2, .int y2_l6), (1, .int y1_l6), (0, .ref a_this)] → fX2_faultPlace_l6 size letters n y3_l6 y2_l6 y1_l6 = T → W p l e (headSpec wsX2_faultPlace rmX2_faultPlace).room s m ([.ref a_this] : List Value).toArray below meth c s.heap [] 0 0 Q (F0 m 6 ls []) := by
    intro n
    induction n with
    | zero => intro y3_l6 y2_l6 y1_l6 hIl6_0 hm_; exact absurd hm_ (Nat.not_lt_zero _)
    | succ n ih =>
      intro y3_l6 y2_l6 y1_l6 hIl6_0 hm_ ls hl hT
      rw [fX2_faultPlace_l6] at hT
      refine lv_iload_n hx hb dX2_faultPlace_6 rfl (lv_at hl 0 rfl) ?_
      refine lv_aload_n hx hb dX2_faultPlace_7 rfl (lv_at hl 3 rfl) ?_
      refine va_get (D := (dC, dI)) (ci := 2) (v := .int size) (C := RX2) (T := TX2) (N := 2) hx hb hts eX2_faultPlace_0 hown hE.1 hP 0 rfl rfl 1 (by decide) (hts _ eX2_faultPlace_1) (fun _ h9 => h9) rfl dX2_faultPlace_8 ?_
      refine lv_icmp_ge (tgt := 144) hx hb dX2_faultPlace_11 (by decide) (fun c_1 => ?_) (fun c_1 => ?_)
      · have hT := (if_pos c_1).symm.trans hT
        refine lv_aload_n hx hb dX2_faultPlace_144 rfl (lv_at hl 3 rfl) ?_
        refine va_get (D := (dC, dI)) (ci := 2) (v := .int size) (C := RX2) (T := TX2) (N := 2) hx hb hts eX2_faultPlace_0 hown hE.1 hP 0 rfl rfl 1 (by decide) (hts _ eX2_faultPlace_1) (fun _ h9 => h9) rfl dX2_faultPlace_145 ?_
        exact hret _ _ _ dX2_faultPlace_148 hT
      · have hT := (if_neg c_1).symm.trans hT
        refine lv_aload_n hx hb dX2_faultPlace_14 rfl (lv_at hl 3 rfl) ?_
        refine va_get (D := (dC, dI)) (ci := 2) (v := .ref a_this_letters) (C := RX2) (T := TX2) (N := 2) hx hb hts eX2_faultPlace_0 hown hE.1 hP 0 rfl rfl 0 (by decide) (hts _ eX2_faultPlace_2) (fun _ h9 => h9) rfl dX2_faultPlace_15 ?_
        refine lv_iload_n hx hb dX2_faultPlace_18 rfl (lv_at hl 0 rfl) ?_
        refine va_cald hx hb hE.1 hP 1 1 rfl rfl (show vp_in y3_l6 32 by simp only [vp_in_iff, ← Int32.toInt_inj, Int32.le_iff_toInt_le, Int32.lt_iff_toInt_lt, Int32.toInt_add, Int32.toInt_sub, Int32.toInt_mul, Int.bmod, Int32.reduceToInt, Nat.reducePow, Int32.toInt_toInt64, Int64.reduceToInt] at h0 hIl6_0 c_1 ⊢ <;> omega) dX2_faultPlace_19 ?_
        refine lv_istore (lv' := [(4, .int (letters y3_l6.toNatClampNeg)), (3, .int y3_l6), (2, .int y2_l6), (1, .int y1_l6), (0, .ref a_this)]) hx hb dX2_faultPlace_20 hl (by decide) rfl (fun ls hl => ?_)
        refine lv_iload_n hx hb dX2_faultPlace_22 rfl (lv_at hl 1 rfl) ?_
        refine lv_bipush (v := (8 : Int32)) hx hb dX2_faultPlace_23 (by decide) ?_
        have Jj131l6 : ∀ (y2_j131l6 : Int32) (y1_j131l6 : Int32) (y5_j131l6 : Int32), ∀ (ls : Array Slot), lv_has ls 6 [(3, .int y3_l6), (2, .int y2_j131l6), (1, .int y1_j131l6), (0, .ref a_this), (5, .int y5_j131l6)] → (fX2_faultPlace_j131l6 (fun k0_ k1_ k2_ => (fX2_faultPlace_l6 size letters n k0_ k1_ k2_)) y3_l6 y2_j131l6 y1_j131l6 y5_j131l6) = T → W p l e (headSpec wsX2_faultPlace rmX2_faultPlace).room s m ([.ref a_this] : List Value).toArray below meth c s.heap [] 0 0 Q (F0 m 131 ls []) := by
          intro y2_j131l6 y1_j131l6 y5_j131l6 ls hl hT
          rw [fX2_faultPlace_j131l6] at hT
          refine lv_iload hx hb dX2_faultPlace_131 (lv_at hl 4 rfl) ?_
          refine lv_if_ne (tgt := 138) hx hb dX2_faultPlace_133 (by decide) (fun c_2 => ?_) (fun c_2 => ?_)
          · have hT := (if_neg c_2).symm.trans hT
            refine lv_iinc (v := (y3_l6 + 1)) (lv' := [(3, .int (y3_l6 + 1)), (2, .int y2_j131l6), (1, .int y1_j131l6), (0, .ref a_this), (5, .int y5_j131l6)]) hx hb dX2_faultPlace_138 hl (k := 0) rfl rfl (by decide) rfl (fun ls hl => ?_)
            refine lv_goto (tgt := 6) hx hb dX2_faultPlace_141 (by decide) ?_
            exact ih (y3_l6 + 1) y2_j131l6 y1_j131l6 (show 0 ≤ (y3_l6 + 1) by simp only [vp_in_iff, ← Int32.toInt_inj, Int32.le_iff_toInt_le, Int32.lt_iff_toInt_lt, Int32.toInt_add, Int32.toInt_sub, Int32.toInt_mul, Int.bmod, Int32.reduceToInt, Nat.reducePow, Int32.toInt_toInt64, Int64.reduceToInt] at h0 hIl6_0 c_1 c_2 hm_ ⊢ <;> omega) (show ((size).toInt - ((y3_l6 + 1)).toInt).toNat < n by simp only [vp_in_iff, ← Int32.toInt_inj, Int32.le_iff_toInt_le, Int32.lt_iff_toInt_lt, Int32.toInt_add, Int32.toInt_sub, Int32.toInt_mul, Int.bmod, Int32.reduceToInt, Nat.reducePow, Int32.toInt_toInt64, Int64.reduceToInt] at h0 hIl6_0 c_1 c_2 hm_ ⊢ <;> omega) ls (lv_sub hl [0, 1, 2, 3] rfl) hT
          · have hT := (if_pos c_2).symm.trans hT
            refine lv_iload_n hx hb dX2_faultPlace_136 rfl (lv_at hl 0 rfl) ?_
            exact hret _ _ _ dX2_faultPlace_137 hT
        refine lv_icmp_ge (tgt := 38) hx hb dX2_faultPlace_25 (by decide) (fun c_3 => ?_) (fun c_3 => ?_)
        · have hT := (if_pos c_3).symm.trans hT
          refine lv_iload_n hx hb dX2_faultPlace_38 rfl (lv_at hl 1 rfl) ?_
          refine lv_bipush (v := (8 : Int32)) hx hb dX2_faultPlace_39 (by decide) ?_
          refine lv_icmp_ne (tgt := 61) hx hb dX2_faultPlace_41 (by decide) (fun c_4 => ?_) (fun c_4 => ?_)
          · have hT := (if_neg c_4).symm.trans hT
            refine lv_iload_n hx hb dX2_faultPlace_61 rfl (lv_at hl 2 rfl) ?_
            refine lv_iconst (v := (-1 : Int32)) hx hb dX2_faultPlace_62 (by decide) ?_
            refine lv_icmp_eq (tgt := 92) hx hb dX2_faultPlace_63 (by decide) (fun c_5 => ?_) (fun c_5 => ?_)
            · have hT := (if_pos c_5).symm.trans hT
              refine lv_iload hx hb dX2_faultPlace_92 (lv_at hl 0 rfl) ?_
              refine lv_bipush (v := (59 : Int32)) hx hb dX2_faultPlace_94 (by decide) ?_
              refine lv_icmp_ne (tgt := 115) hx hb dX2_faultPlace_96 (by decide) (fun c_6 => ?_) (fun c_6 => ?_)
              · have hT := (if_neg c_6).symm.trans hT
                refine lv_iload hx hb dX2_faultPlace_115 (lv_at hl 0 rfl) ?_
                refine lv_iload_n hx hb dX2_faultPlace_117 rfl (lv_at hl 3 rfl) ?_
                refine vp_callSi (va_Run.run (va_runS (As := [.int (letters y3_l6.toNatClampNeg), .int y1_l6]) (rest := []) ⟨hx, hb, hml, hown, hts⟩ (mX2_isNewStair l dC dI cyI cyC cyZ tF tE (letters y3_l6.toNatClampNeg) y1_l6 _ rfl) (va_cwS 2 hts gX2_faultPlace_X2_isNewStair rfl rfl rfl (by decide +kernel) ⟨(Nat.le_of_ble_eq_true rfl), (Nat.le_of_ble_eq_true rfl)⟩) ⟨z_bp, fun U hU hW => ⟨rfl, by rw [hU]; exact hP.sub (ws' := []) [] rfl, hE.to hS (fun _ h => h.elim) hU hW⟩⟩ rfl rfl hl.1 rfl (lv_room (Nat.le_of_ble_eq_true rfl)) dX2_faultPlace_118 ⟨Nat.zero_le _, Nat.zero_le _⟩)) (fun r_7 hr_7 => ?_)
                obtain ⟨rfl, hb_7⟩ := hr_7
                refine lv_istore (lv' := [(5, .int (fX2_isNewStair (letters y3_l6.toNatClampNeg) y1_l6)), (4, .int (letters y3_l6.toNatClampNeg)), (3, .int y3_l6), (2, .int y2_l6), (1, .int y1_l6), (0, .ref a_this)]) hx hb dX2_faultPlace_121 hl (by decide) rfl (fun ls hl => ?_)
                refine lv_iload_n hx hb dX2_faultPlace_123 rfl (lv_at hl 4 rfl) ?_
                refine lv_iload hx hb dX2_faultPlace_124 (lv_at hl 1 rfl) ?_
                refine vp_callSi (va_Run.run (va_runS (As := [.int (letters y3_l6.toNatClampNeg)]) (rest := [.int y1_l6]) ⟨hx, hb, hml, hown, hts⟩ (mX2_stairBit l dC dI cyI cyC cyZ tF tE (letters y3_l6.toNatClampNeg) _ rfl) (va_cwS 1 hts gX2_faultPlace_X2_stairBit rfl rfl rfl (by decide +kernel) ⟨(Nat.le_of_ble_eq_true rfl), (Nat.le_of_ble_eq_true rfl)⟩) ⟨z_bp, fun U hU hW => ⟨rfl, by rw [hU]; exact hP.sub (ws' := []) [] rfl, hE.to hS (fun _ h => h.elim) hU hW⟩⟩ rfl rfl hl.1 rfl (lv_room (Nat.le_of_ble_eq_true rfl)) dX2_faultPlace_126 ⟨Nat.zero_le _, Nat.zero_le _⟩)) (fun r_8 hr_8 => ?_)
                obtain rfl := hr_8
                refine lv_ior hx hb dX2_faultPlace_129 ?_
                refine lv_istore_n (lv' := [(1, .int (y1_l6 ||| (fX2_stairBit (letters y3_l6.toNatClampNeg)))), (5, .int (fX2_isNewStair (letters y3_l6.toNatClampNeg) y1_l6)), (4, .int (letters y3_l6.toNatClampNeg)), (3, .int y3_l6), (2, .int y2_l6), (0, .ref a_this)]) hx hb dX2_faultPlace_130 rfl hl (by decide) rfl (fun ls hl => ?_)
                exact Jj131l6 y2_l6 (y1_l6 ||| (fX2_stairBit (letters y3_l6.toNatClampNeg))) (fX2_isNewStair (letters y3_l6.toNatClampNeg) y1_l6) ls (lv_sub hl [3, 4, 0, 5, 1] rfl) hT
              · have hT := (if_pos c_6).symm.trans hT
                refine lv_iload_n hx hb dX2_faultPlace_99 rfl (lv_at hl 3 rfl) ?_
                refine lv_if_eq (tgt := 107) hx hb dX2_faultPlace_100 (by decide) (fun c_9 => ?_) (fun c_9 => ?_)
                · have hT := (if_pos c_9).symm.trans hT
                  refine lv_iconst (v := (0 : Int32)) hx hb dX2_faultPlace_107 (by decide) ?_
                  refine lv_istore (lv' := [(5, .int (0 : Int32)), (4, .int (letters y3_l6.toNatClampNeg)), (3, .int y3_l6), (2, .int y2_l6), (1, .int y1_l6), (0, .ref a_this)]) hx hb dX2_faultPlace_108 hl (by decide) rfl (fun ls hl => ?_)
                  refine lv_iload_n hx hb dX2_faultPlace_110 rfl (lv_at hl 2 rfl) ?_
                  refine lv_istore_n (lv' := [(2, .int y3_l6), (5, .int (0 : Int32)), (4, .int (letters y3_l6.toNatClampNeg)), (3, .int y3_l6), (1, .int y1_l6), (0, .ref a_this)]) hx hb dX2_faultPlace_111 rfl hl (by decide) rfl (fun ls hl => ?_)
                  refine lv_goto (tgt := 131) hx hb dX2_faultPlace_112 (by decide) ?_
                  exact Jj131l6 y3_l6 y1_l6 (0 : Int32) ls (lv_sub hl [3, 0, 4, 5, 1] rfl) hT
                · have hT := (if_neg c_9).symm.trans hT
                  refine lv_iconst (v := (1 : Int32)) hx hb dX2_faultPlace_103 (by decide) ?_
                  refine lv_goto (tgt := 108) hx hb dX2_faultPlace_104 (by decide) ?_
                  refine lv_istore (lv' := [(5, .int (1 : Int32)), (4, .int (letters y3_l6.toNatClampNeg)), (3, .int y3_l6), (2, .int y2_l6), (1, .int y1_l6), (0, .ref a_this)]) hx hb dX2_faultPlace_108 hl (by decide) rfl (fun ls hl => ?_)
                  refine lv_iload_n hx hb dX2_faultPlace_110 rfl (lv_at hl 2 rfl) ?_
                  refine lv_istore_n (lv' := [(2, .int y3_l6), (5, .int (1 : Int32)), (4, .int (letters y3_l6.toNatClampNeg)), (3, .int y3_l6), (1, .int y1_l6), (0, .ref a_this)]) hx hb dX2_faultPlace_111 rfl hl (by decide) rfl (fun ls hl => ?_)
                  refine lv_goto (tgt := 131) hx hb dX2_faultPlace_112 (by decide) ?_
                  exact Jj131l6 y3_l6 y1_l6 (1 : Int32) ls (lv_sub hl [3, 0, 4, 5, 1] rfl) hT
            · have hT := (if_neg c_5).symm.trans hT
              refine lv_iload hx hb dX2_faultPlace_66 (lv_at hl 0 rfl) ?_
              refine vp_callSi (va_Run.run (va_runS (As := [.int (letters y3_l6.toNatClampNeg)]) (rest := []) ⟨hx, hb, hml, hown, hts⟩ (mX2_isDigit l dC dI cyI cyC cyZ tF tE (letters y3_l6.toNatClampNeg) _ rfl) (va_cwS 1 hts gX2_faultPlace_X2_isDigit rfl rfl rfl (by decide +kernel) ⟨(Nat.le_of_ble_eq_true rfl), (Nat.le_of_ble_eq_true rfl)⟩) ⟨z_bp, fun U hU hW => ⟨rfl, by rw [hU]; exact hP.sub (ws' := []) [] rfl, hE.to hS (fun _ h => h.elim) hU hW⟩⟩ rfl rfl hl.1 rfl (lv_room (Nat.le_of_ble_eq_true rfl)) dX2_faultPlace_68 ⟨Nat.zero_le _, Nat.zero_le _⟩)) (fun r_10 hr_10 => ?_)
              obtain ⟨rfl, hb_10⟩ := hr_10
              refine lv_if_eq (tgt := 86) hx hb dX2_faultPlace_71 (by decide) (fun c_11 => ?_) (fun c_11 => ?_)
              · have hT := (if_pos c_11).symm.trans hT
                refine lv_iconst (v := (0 : Int32)) hx hb dX2_faultPlace_86 (by decide) ?_
                refine lv_istore (lv' := [(5, .int (0 : Int32)), (4, .int (letters y3_l6.toNatClampNeg)), (3, .int y3_l6), (2, .int y2_l6), (1, .int y1_l6), (0, .ref a_this)]) hx hb dX2_faultPlace_87 hl (by decide) rfl (fun ls hl => ?_)
                refine lv_goto (tgt := 131) hx hb dX2_faultPlace_89 (by decide) ?_
                exact Jj131l6 y2_l6 y1_l6 (0 : Int32) ls (lv_sub hl [2, 3, 4, 5, 0] rfl) hT
              · have hT := (if_neg c_11).symm.trans hT
                refine lv_iload_n hx hb dX2_faultPlace_74 rfl (lv_at hl 1 rfl) ?_
                refine lv_iload_n hx hb dX2_faultPlace_75 rfl (lv_at hl 2 rfl) ?_
                refine lv_isub hx hb dX2_faultPlace_76 ?_
                refine lv_bipush (v := (12 : Int32)) hx hb dX2_faultPlace_77 (by decide) ?_
                refine lv_icmp_gt (tgt := 86) hx hb dX2_faultPlace_79 (by decide) (fun c_12 => ?_) (fun c_12 => ?_)
                · have hT := (if_pos c_12).symm.trans hT
                  refine lv_iconst (v := (0 : Int32)) hx hb dX2_faultPlace_86 (by decide) ?_
                  refine lv_istore (lv' := [(5, .int (0 : Int32)), (4, .int (letters y3_l6.toNatClampNeg)), (3, .int y3_l6), (2, .int y2_l6), (1, .int y1_l6), (0, .ref a_this)]) hx hb dX2_faultPlace_87 hl (by decide) rfl (fun ls hl => ?_)
                  refine lv_goto (tgt := 131) hx hb dX2_faultPlace_89 (by decide) ?_
                  exact Jj131l6 y2_l6 y1_l6 (0 : Int32) ls (lv_sub hl [2, 3, 4, 5, 0] rfl) hT
                · have hT := (if_neg c_12).symm.trans hT
                  refine lv_iconst (v := (1 : Int32)) hx hb dX2_faultPlace_82 (by decide) ?_
                  refine lv_goto (tgt := 87) hx hb dX2_faultPlace_83 (by decide) ?_
                  refine lv_istore (lv' := [(5, .int (1 : Int32)), (4, .int (letters y3_l6.toNatClampNeg)), (3, .int y3_l6), (2, .int y2_l6), (1, .int y1_l6), (0, .ref a_this)]) hx hb dX2_faultPlace_87 hl (by decide) rfl (fun ls hl => ?_)
                  refine lv_goto (tgt := 131) hx hb dX2_faultPlace_89 (by decide) ?_
                  exact Jj131l6 y2_l6 y1_l6 (1 : Int32) ls (lv_sub hl [2, 3, 4, 5, 0] rfl) hT
          · have hT := (if_pos c_4).symm.trans hT
            refine lv_iload hx hb dX2_faultPlace_44 (lv_at hl 0 rfl) ?_
            refine lv_bipush (v := (59 : Int32)) hx hb dX2_faultPlace_46 (by decide) ?_
            refine lv_icmp_ne (tgt := 55) hx hb dX2_faultPlace_48 (by decide) (fun c_13 => ?_) (fun c_13 => ?_)
            · have hT := (if_neg c_13).symm.trans hT
              refine lv_iconst (v := (0 : Int32)) hx hb dX2_faultPlace_55 (by decide) ?_
              refine lv_istore (lv' := [(5, .int (0 : Int32)), (4, .int (letters y3_l6.toNatClampNeg)), (3, .int y3_l6), (2, .int y2_l6), (1, .int y1_l6), (0, .ref a_this)]) hx hb dX2_faultPlace_56 hl (by decide) rfl (fun ls hl => ?_)
              refine lv_goto (tgt := 131) hx hb dX2_faultPlace_58 (by decide) ?_
              exact Jj131l6 y2_l6 y1_l6 (0 : Int32) ls (lv_sub hl [2, 3, 4, 5, 0] rfl) hT
            · have hT := (if_pos c_13).symm.trans hT
              refine lv_iconst (v := (1 : Int32)) hx hb dX2_faultPlace_51 (by decide) ?_
              refine lv_goto (tgt := 56) hx hb dX2_faultPlace_52 (by decide) ?_
              refine lv_istore (lv' := [(5, .int (1 : Int32)), (4, .int (letters y3_l6.toNatClampNeg)), (3, .int y3_l6), (2, .int y2_l6), (1, .int y1_l6), (0, .ref a_this)]) hx hb dX2_faultPlace_56 hl (by decide) rfl (fun ls hl => ?_)
              refine lv_goto (tgt := 131) hx hb dX2_faultPlace_58 (by decide) ?_
              exact Jj131l6 y2_l6 y1_l6 (1 : Int32) ls (lv_sub hl [2, 3, 4, 5, 0] rfl) hT
        · have hT := (if_neg c_3).symm.trans hT
          refine lv_iload hx hb dX2_faultPlace_28 (lv_at hl 0 rfl) ?_
          refine vp_callSi (va_Run.run (va_runS (As := [.int (letters y3_l6.toNatClampNeg)]) (rest := []) ⟨hx, hb, hml, hown, hts⟩ (mX2_isDigit l dC dI cyI cyC cyZ tF tE (letters y3_l6.toNatClampNeg) _ rfl) (va_cwS 1 hts gX2_faultPlace_X2_isDigit rfl rfl rfl (by decide +kernel) ⟨(Nat.le_of_ble_eq_true rfl), (Nat.le_of_ble_eq_true rfl)⟩) ⟨z_bp, fun U hU hW => ⟨rfl, by rw [hU]; exact hP.sub (ws' := []) [] rfl, hE.to hS (fun _ h => h.elim) hU hW⟩⟩ rfl rfl hl.1 rfl (lv_room (Nat.le_of_ble_eq_true rfl)) dX2_faultPlace_30 ⟨Nat.zero_le _, Nat.zero_le _⟩)) (fun r_14 hr_14 => ?_)
          obtain ⟨rfl, hb_14⟩ := hr_14
          refine lv_istore (lv' := [(5, .int (fX2_isDigit (letters y3_l6.toNatClampNeg))), (4, .int (letters y3_l6.toNatClampNeg)), (3, .int y3_l6), (2, .int y2_l6), (1, .int y1_l6), (0, .ref a_this)]) hx hb dX2_faultPlace_33 hl (by decide) rfl (fun ls hl => ?_)
          refine lv_goto (tgt := 131) hx hb dX2_faultPlace_35 (by decide) ?_
          exact Jj131l6 y2_l6 y1_l6 (fX2_isDigit (letters y3_l6.toNatClampNeg)) ls (lv_sub hl [2, 3, 4, 5, 0] rfl) hT
  exact Ll6 33 (0 : Int32) (-1 : Int32) (0 : Int32) (show 0 ≤ (0 : Int32) by simp only [vp_in_iff, ← Int32.toInt_inj, Int32.le_iff_toInt_le, Int32.lt_iff_toInt_lt, Int32.toInt_add, Int32.toInt_sub, Int32.toInt_mul, Int.bmod, Int32.reduceToInt, Nat.reducePow, Int32.toInt_toInt64, Int64.reduceToInt] at h0 ⊢ <;> omega) (show ((size).toInt - ((0 : Int32)).toInt).toNat < 33 by simp only [vp_in_iff, ← Int32.toInt_inj, Int32.le_iff_toInt_le, Int32.lt_iff_toInt_lt, Int32.toInt_add, Int32.toInt_sub, Int32.toInt_mul, Int.bmod, Int32.reduceToInt, Nat.reducePow, Int32.toInt_toInt64, Int64.reduceToInt] at h0 ⊢ <;> omega) ls (lv_sub hl [0, 1, 2, 3] rfl) hT

def fX2_heightsBehind_l3 (size : Int32) (letters : Nat → Int32) : Nat → Int32 → Int32
  | 0, _ => (0 : Int32)
  | n + 1, y1_l3 => (if size ≤ y1_l3 then (-1 : Int32) else (if (letters y1_l3.toNatClampNeg) = (59 : Int32) then y1_l3 else (fX2_heightsBehind_l3 size letters n (y1_l3 + 1))))
def fX2_heightsBehind (size : Int32) (letters : Nat → Int32) : Int32 := (fX2_heightsBehind_l3 size letters 33 (9 : Int32))
theorem zX2_heightsBehind_l (size : Int32) (letters : Nat → Int32) (h : size ≤ 32) : ∀ (n : Nat) (i : Int32), 0 ≤ i → -1 ≤ fX2_heightsBehind_l3 size letters n i ∧ fX2_heightsBehind_l3 size letters n i ≤ 31 := by
  intro n
  induction n with
  | zero => intro i _; rw [fX2_heightsBehind_l3]; decide
  | succ n ih =>
    intro i hi; rw [fX2_heightsBehind_l3]
    split
    · decide
    · rename_i c
      split
      · constructor <;> simp only [vp_in_iff, ← Int32.toInt_inj, Int32.le_iff_toInt_le, Int32.lt_iff_toInt_lt, Int32.toInt_add, Int32.toInt_sub, Int32.toInt_mul, Int.bmod, Int32.reduceToInt, Nat.reducePow, Int32.toInt_toInt64, Int64.reduceToInt] at * <;> omega
      · apply ih; simp only [vp_in_iff, ← Int32.toInt_inj, Int32.le_iff_toInt_le, Int32.lt_iff_toInt_lt, Int32.toInt_add, Int32.toInt_sub, Int32.toInt_mul, Int.bmod, Int32.reduceToInt, Nat.reducePow, Int32.toInt_toInt64, Int64.reduceToInt] at * <;> omega
theorem zX2_heightsBehind (size : Int32) (letters : Nat → Int32) : size ≤ 32 → -1 ≤ fX2_heightsBehind size letters ∧ fX2_heightsBehind size letters ≤ 31 := by
  intro h; rw [fX2_heightsBehind]; exact zX2_heightsBehind_l size letters h _ _ (by decide)
abbrev rmX2_heightsBehind : Room := { frames := 0, cells := 0, slots := 0, locals := 0 }
theorem eX2_heightsBehind_0 : ∀ w ∈ u_ws RX2 TX2 2, w ∈ wsX2_heightsBehind := by decide +kernel
theorem eX2_heightsBehind_1 : (Cond.fieldLink RX2 15 "LowWater$Page" "size" "I" : Cond) ∈ wsX2_heightsBehind := by decide +kernel
theorem eX2_heightsBehind_2 : (Cond.fieldLink RX2 9 "LowWater$Page" "letters" "[C" : Cond) ∈ wsX2_heightsBehind := by decide +kernel
set_option maxHeartbeats 4000000 in
set_option maxRecDepth 100000 in
theorem mX2_heightsBehind (l : Launch) (dC : Nat → ClassId) (dI : Nat → Nat → Nat) (cyI cyC cyZ : ClassId) (tF tE : Nat) (a_this : Nat) (a_this_letters : Nat) (size : Int32) (letters : Nat → Int32) (h0 : size ≤ 32) (T : Int32) (hT : fX2_heightsBehind size letters = T) : Met l yX2_heightsBehind wsX2_heightsBehind rmX2_heightsBehind (va_Pc [.ref a_this] (fun U => va_P (dC, dI) vwCl [(a_this, .inr (2, [.ref a_this_letters, .int size])), (a_this_letters, .inl (cyC, 32, .inl letters))] U.heap ∧ zE (fun _ => False) dC dI cyI cyC cyZ tF tE U U.heap)) (vp_Si (fun r => r = T)) 0 0 (fun _ => False) := by
  rw [fX2_heightsBehind] at hT
  refine z_pi (cc := cX2_heightsBehind) (maxL := 2) (post := fun r => r = T) (by decide) rfl (Nat.le_of_ble_eq_true rfl) ?_
  intro p e s m below meth c Q hx hb hml hown hts hB hret ls hl
  obtain ⟨hP, hE⟩ := hB
  have hown : s.vm.findClass RX2 = some m.cls := hown
  have hS : va_S (fun _ => False) s.heap s.heap [] := va_S.rf
  have hl : lv_has ls 2 [(0, .ref a_this)] := hl
  refine lv_bipush (v := (9 : Int32)) hx hb dX2_heightsBehind_0 (by decide) ?_
  refine lv_istore_n (lv' := [(1, .int (9 : Int32)), (0, .ref a_this)]) hx hb dX2_heightsBehind_2 rfl hl (by decide) rfl (fun ls hl => ?_)
  have Ll3 : ∀ (n : Nat) (y1_l3 : Int32), 9 ≤ y1_l3 → ((size).toInt - (y1_l3).toInt).toNat < n → ∀ (ls : Array Slot), lv_has ls 2 [(1, .int y1_l3), (0, .ref a_this)] → fX2_heightsBehind_l3 size letters n y1_l3 = T → W p l e (headSpec wsX2_heightsBehind rmX2_heightsBehind).room s m ([.ref a_this] : List Value).toArray below meth c s.heap [] 0 0 Q (F0 m 3 ls []) := by
    intro n
    induction n with
    | zero => intro y1_l3 hIl3_0 hm_; exact absurd hm_ (Nat.not_lt_zero _)
    | succ n ih =>
      intro y1_l3 hIl3_0 hm_ ls hl hT
      rw [fX2_heightsBehind_l3] at hT
      refine lv_iload_n hx hb dX2_heightsBehind_3 rfl (lv_at hl 0 rfl) ?_
      refine lv_aload_n hx hb dX2_heightsBehind_4 rfl (lv_at hl 1 rfl) ?_
      refine va_get (D := (dC, dI)) (ci := 2) (v := .int size) (C := RX2) (T := TX2) (N := 2) hx hb hts eX2_heightsBehind_0 hown hE.1 hP 0 rfl rfl 1 (by decide) (hts _ eX2_heightsBehind_1) (fun _ h9 => h9) rfl dX2_heightsBehind_5 ?_
      refine lv_icmp_ge (tgt := 30) hx hb dX2_heightsBehind_8 (by decide) (fun c_1 => ?_) (fun c_1 => ?_)
      · have hT := (if_pos c_1).symm.trans hT
        refine lv_iconst (v := (-1 : Int32)) hx hb dX2_heightsBehind_30 (by decide) ?_
        exact hret _ _ _ dX2_heightsBehind_31 hT
      · have hT := (if_neg c_1).symm.trans hT
        refine lv_aload_n hx hb dX2_heightsBehind_11 rfl (lv_at hl 1 rfl) ?_
        refine va_get (D := (dC, dI)) (ci := 2) (v := .ref a_this_letters) (C := RX2) (T := TX2) (N := 2) hx hb hts eX2_heightsBehind_0 hown hE.1 hP 0 rfl rfl 0 (by decide) (hts _ eX2_heightsBehind_2) (fun _ h9 => h9) rfl dX2_heightsBehind_12 ?_
        refine lv_iload_n hx hb dX2_heightsBehind_15 rfl (lv_at hl 0 rfl) ?_
        refine va_cald hx hb hE.1 hP 1 1 rfl rfl (show vp_in y1_l3 32 by simp only [vp_in_iff, ← Int32.toInt_inj, Int32.le_iff_toInt_le, Int32.lt_iff_toInt_lt, Int32.toInt_add, Int32.toInt_sub, Int32.toInt_mul, Int.bmod, Int32.reduceToInt, Nat.reducePow, Int32.toInt_toInt64, Int64.reduceToInt] at h0 hIl3_0 c_1 ⊢ <;> omega) dX2_heightsBehind_16 ?_
        refine lv_bipush (v := (59 : Int32)) hx hb dX2_heightsBehind_17 (by decide) ?_
        refine lv_icmp_ne (tgt := 24) hx hb dX2_heightsBehind_19 (by decide) (fun c_2 => ?_) (fun c_2 => ?_)
        · have hT := (if_neg c_2).symm.trans hT
          refine lv_iinc (v := (y1_l3 + 1)) (lv' := [(1, .int (y1_l3 + 1)), (0, .ref a_this)]) hx hb dX2_heightsBehind_24 hl (k := 0) rfl rfl (by decide) rfl (fun ls hl => ?_)
          refine lv_goto (tgt := 3) hx hb dX2_heightsBehind_27 (by decide) ?_
          exact ih (y1_l3 + 1) (show 9 ≤ (y1_l3 + 1) by simp only [vp_in_iff, ← Int32.toInt_inj, Int32.le_iff_toInt_le, Int32.lt_iff_toInt_lt, Int32.toInt_add, Int32.toInt_sub, Int32.toInt_mul, Int.bmod, Int32.reduceToInt, Nat.reducePow, Int32.toInt_toInt64, Int64.reduceToInt] at h0 hIl3_0 c_1 c_2 hm_ ⊢ <;> omega) (show ((size).toInt - ((y1_l3 + 1)).toInt).toNat < n by simp only [vp_in_iff, ← Int32.toInt_inj, Int32.le_iff_toInt_le, Int32.lt_iff_toInt_lt, Int32.toInt_add, Int32.toInt_sub, Int32.toInt_mul, Int.bmod, Int32.reduceToInt, Nat.reducePow, Int32.toInt_toInt64, Int64.reduceToInt] at h0 hIl3_0 c_1 c_2 hm_ ⊢ <;> omega) ls (lv_sub hl [0, 1] rfl) hT
        · have hT := (if_pos c_2).symm.trans hT
          refine lv_iload_n hx hb dX2_heightsBehind_22 rfl (lv_at hl 0 rfl) ?_
          exact hret _ _ _ dX2_heightsBehind_23 hT
  exact Ll3 33 (9 : Int32) (show 9 ≤ (9 : Int32) by simp only [vp_in_iff, ← Int32.toInt_inj, Int32.le_iff_toInt_le, Int32.lt_iff_toInt_lt, Int32.toInt_add, Int32.toInt_sub, Int32.toInt_mul, Int.bmod, Int32.reduceToInt, Nat.reducePow, Int32.toInt_toInt64, Int64.reduceToInt] at h0 ⊢ <;> omega) (show ((size).toInt - ((9 : Int32)).toInt).toNat < 33 by simp only [vp_in_iff, ← Int32.toInt_inj, Int32.le_iff_toInt_le, Int32.lt_iff_toInt_lt, Int32.toInt_add, Int32.toInt_sub, Int32.toInt_mul, Int.bmod, Int32.reduceToInt, Nat.reducePow, Int32.toInt_toInt64, Int64.reduceToInt] at h0 ⊢ <;> omega) ls (lv_sub hl [0, 1] rfl) hT

def fX2_isShore (size : Int32) (letters : Nat → Int32) : Int32 := (if (fX2_heightsBehind size letters) = (-1 : Int32) then (0 : Int32) else (if ((size - (1 : Int32)) - (fX2_heightsBehind size letters)) < (2 : Int32) then (0 : Int32) else (if (fX2_faultPlace size letters) = size then (1 : Int32) else (0 : Int32))))
abbrev rmX2_isShore : Room := { frames := 4, cells := 0, slots := 0, locals := 87 }
theorem eX2_isShore_0 : ∀ w ∈ u_ws RX2 TX2 2, w ∈ wsX2_isShore := by decide +kernel
theorem eX2_isShore_1 : (Cond.fieldLink RX2 15 "LowWater$Page" "size" "I" : Cond) ∈ wsX2_isShore := by decide +kernel
set_option maxHeartbeats 4000000 in
set_option maxRecDepth 100000 in
theorem mX2_isShore (l : Launch) (dC : Nat → ClassId) (dI : Nat → Nat → Nat) (cyI cyC cyZ : ClassId) (tF tE : Nat) (a_this : Nat) (a_this_letters : Nat) (size : Int32) (letters : Nat → Int32) (h0 : size ≤ 32) (T : Int32) (hT : fX2_isShore size letters = T) : Met l yX2_isShore wsX2_isShore rmX2_isShore (va_Pc [.ref a_this] (fun U => va_P (dC, dI) vwCl [(a_this, .inr (2, [.ref a_this_letters, .int size])), (a_this_letters, .inl (cyC, 32, .inl letters))] U.heap ∧ zE (fun _ => False) dC dI cyI cyC cyZ tF tE U U.heap)) (vp_Si (fun r => r = T ∧ (r = 0 ∨ r = 1))) 0 0 (fun _ => False) := by
  rw [fX2_isShore] at hT
  refine z_pz (cc := cX2_isShore) (maxL := 2) (post := fun r => r = T) (by decide) rfl (Nat.le_of_ble_eq_true rfl) ?_
  intro p e s m below meth c Q hx hb hml hown hts hB hret ls hl
  obtain ⟨hP, hE⟩ := hB
  have hown : s.vm.findClass RX2 = some m.cls := hown
  have hS : va_S (fun _ => False) s.heap s.heap [] := va_S.rf
  have hl : lv_has ls 2 [(0, .ref a_this)] := hl
  refine lv_aload_n hx hb dX2_isShore_0 rfl (lv_at hl 0 rfl) ?_
  refine vp_callSi (va_Run.run (va_runV (As := []) (rest := []) ⟨hx, hb, hml, hown, hts⟩ (mX2_heightsBehind l dC dI cyI cyC cyZ tF tE a_this a_this_letters size letters (show size ≤ 32 by simp only [vp_in_iff, ← Int32.toInt_inj, Int32.le_iff_toInt_le, Int32.lt_iff_toInt_lt, Int32.toInt_add, Int32.toInt_sub, Int32.toInt_mul, Int.bmod, Int32.reduceToInt, Nat.reducePow, Int32.toInt_toInt64, Int64.reduceToInt] at h0 ⊢ <;> omega) _ rfl) (cwV 0 hts gX2_isShore_X2_heightsBehind rfl rfl rfl (by decide +kernel) ⟨(Nat.le_of_ble_eq_true rfl), (Nat.le_of_ble_eq_true rfl)⟩) ⟨z_bp, va_recv hE.1 hP (ci := 2) (q0 := 0) rfl rfl, fun U hU hW => ⟨rfl, by rw [hU]; exact hP.sub (ws' := [(a_this, .inr (2, [.ref a_this_letters, .int size])), (a_this_letters, .inl (cyC, 32, .inl letters))]) [0, 1] rfl, hE.to hS (fun _ h => h.elim) hU hW⟩⟩ rfl rfl hl.1 rfl (lv_room (Nat.le_of_ble_eq_true rfl)) dX2_isShore_1 ⟨Nat.zero_le _, Nat.zero_le _⟩)) (fun r_1 hr_1 => ?_)
  obtain rfl := hr_1
  have hq_1 := zX2_heightsBehind size letters 
  refine lv_istore_n (lv' := [(1, .int (fX2_heightsBehind size letters)), (0, .ref a_this)]) hx hb dX2_isShore_4 rfl hl (by decide) rfl (fun ls hl => ?_)
  refine lv_iload_n hx hb dX2_isShore_5 rfl (lv_at hl 0 rfl) ?_
  refine lv_iconst (v := (-1 : Int32)) hx hb dX2_isShore_6 (by decide) ?_
  refine lv_icmp_eq (tgt := 37) hx hb dX2_isShore_7 (by decide) (fun c_2 => ?_) (fun c_2 => ?_)
  · have hT := (if_pos c_2).symm.trans hT
    refine lv_iconst (v := (0 : Int32)) hx hb dX2_isShore_37 (by decide) ?_
    exact hret _ _ _ (Or.inl rfl) dX2_isShore_38 hT
  · have hT := (if_neg c_2).symm.trans hT
    refine lv_aload_n hx hb dX2_isShore_10 rfl (lv_at hl 1 rfl) ?_
    refine va_get (D := (dC, dI)) (ci := 2) (v := .int size) (C := RX2) (T := TX2) (N := 2) hx hb hts eX2_isShore_0 hown hE.1 hP 0 rfl rfl 1 (by decide) (hts _ eX2_isShore_1) (fun _ h9 => h9) rfl dX2_isShore_11 ?_
    refine lv_iconst (v := (1 : Int32)) hx hb dX2_isShore_14 (by decide) ?_
    refine lv_isub hx hb dX2_isShore_15 ?_
    refine lv_iload_n hx hb dX2_isShore_16 rfl (lv_at hl 0 rfl) ?_
    refine lv_isub hx hb dX2_isShore_17 ?_
    refine lv_iconst (v := (2 : Int32)) hx hb dX2_isShore_18 (by decide) ?_
    refine lv_icmp_lt (tgt := 37) hx hb dX2_isShore_19 (by decide) (fun c_3 => ?_) (fun c_3 => ?_)
    · have hT := (if_pos c_3).symm.trans hT
      refine lv_iconst (v := (0 : Int32)) hx hb dX2_isShore_37 (by decide) ?_
      exact hret _ _ _ (Or.inl rfl) dX2_isShore_38 hT
    · have hT := (if_neg c_3).symm.trans hT
      refine lv_aload_n hx hb dX2_isShore_22 rfl (lv_at hl 1 rfl) ?_
      refine vp_callSi (va_Run.run (va_runV (As := []) (rest := []) ⟨hx, hb, hml, hown, hts⟩ (mX2_faultPlace l dC dI cyI cyC cyZ tF tE a_this a_this_letters size letters (show size ≤ 32 by simp only [vp_in_iff, ← Int32.toInt_inj, Int32.le_iff_toInt_le, Int32.lt_iff_toInt_lt, Int32.toInt_add, Int32.toInt_sub, Int32.toInt_mul, Int.bmod, Int32.reduceToInt, Nat.reducePow, Int32.toInt_toInt64, Int64.reduceToInt] at h0 hq_1 c_2 c_3 ⊢ <;> omega) _ rfl) (cwV 0 hts gX2_isShore_X2_faultPlace rfl rfl rfl (by decide +kernel) ⟨(Nat.le_of_ble_eq_true rfl), (Nat.le_of_ble_eq_true rfl)⟩) ⟨z_bp, va_recv hE.1 hP (ci := 2) (q0 := 0) rfl rfl, fun U hU hW => ⟨rfl, by rw [hU]; exact hP.sub (ws' := [(a_this, .inr (2, [.ref a_this_letters, .int size])), (a_this_letters, .inl (cyC, 32, .inl letters))]) [0, 1] rfl, hE.to hS (fun _ h => h.elim) hU hW⟩⟩ rfl rfl hl.1 rfl (lv_room (Nat.le_of_ble_eq_true rfl)) dX2_isShore_23 ⟨Nat.zero_le _, Nat.zero_le _⟩)) (fun r_4 hr_4 => ?_)
      obtain rfl := hr_4
      refine lv_aload_n hx hb dX2_isShore_26 rfl (lv_at hl 1 rfl) ?_
      refine va_get (D := (dC, dI)) (ci := 2) (v := .int size) (C := RX2) (T := TX2) (N := 2) hx hb hts eX2_isShore_0 hown hE.1 hP 0 rfl rfl 1 (by decide) (hts _ eX2_isShore_1) (fun _ h9 => h9) rfl dX2_isShore_27 ?_
      refine lv_icmp_ne (tgt := 37) hx hb dX2_isShore_30 (by decide) (fun c_5 => ?_) (fun c_5 => ?_)
      · have hT := (if_neg c_5).symm.trans hT
        refine lv_iconst (v := (0 : Int32)) hx hb dX2_isShore_37 (by decide) ?_
        exact hret _ _ _ (Or.inl rfl) dX2_isShore_38 hT
      · have hT := (if_pos c_5).symm.trans hT
        refine lv_iconst (v := (1 : Int32)) hx hb dX2_isShore_33 (by decide) ?_
        refine lv_goto (tgt := 38) hx hb dX2_isShore_34 (by decide) ?_
        exact hret _ _ _ (Or.inr rfl) dX2_isShore_38 hT

def fX4_readFrom_l7 (p0_letters : Nat → Int32) : Nat → Int32 → (Nat → Int32) → (Nat → Int32)
  | 0, _, _ => (fun _ => 0)
  | n + 1, y3_l7, levels_l7 => (if (8 : Int32) ≤ y3_l7 then levels_l7 else (fX4_readFrom_l7 p0_letters n (y3_l7 + 1) (upd levels_l7 y3_l7.toNatClampNeg ((p0_letters y3_l7.toNatClampNeg) - (48 : Int32)))))
def fX4_readFrom_l42 (p0_size : Int32) (p0_letters : Nat → Int32) : Nat → Int32 → Int32 → Int32
  | 0, _, _ => (0 : Int32)
  | n + 1, y3_l42, stairs_l42 => (if (fX2_heightsBehind p0_size p0_letters) ≤ y3_l42 then stairs_l42 else (fX4_readFrom_l42 p0_size p0_letters n (y3_l42 + 1) (stairs_l42 ||| (jshl (1 : Int32) ((p0_letters y3_l42.toNatClampNeg) - (48 : Int32))))))
def fX4_readFrom_l82 (p0_size : Int32) (p0_letters : Nat → Int32) : Nat → Int32 → (Nat → Int32) → Int32 → (Nat → Int32) × Int32
  | 0, _, _, _ => ((fun _ => 0), (0 : Int32))
  | n + 1, y3_l82, heights_l82, heightCount_l82 => (if p0_size ≤ y3_l82 then (heights_l82, heightCount_l82) else (if (12 : Int32) ≤ heightCount_l82 then (heights_l82, heightCount_l82) else (fX4_readFrom_l82 p0_size p0_letters n (y3_l82 + 1) (upd heights_l82 heightCount_l82.toNatClampNeg ((p0_letters y3_l82.toNatClampNeg) - (48 : Int32))) (heightCount_l82 + (1 : Int32)))))
def fX4_readFrom_x82 (levels_l7_x : Nat → Int32) (stairs_l42_x : Int32) (heights_l82_x : Nat → Int32) (heightCount_l82_x : Int32) : (Nat → Int32) × (Nat → Int32) × Int32 × Int32 := (levels_l7_x, heights_l82_x, heightCount_l82_x, stairs_l42_x)
def fX4_readFrom_x42 (heights : Nat → Int32) (p0_size : Int32) (p0_letters : Nat → Int32) (levels_l7_x : Nat → Int32) (stairs_l42_x : Int32) : (Nat → Int32) × (Nat → Int32) × Int32 × Int32 := (fX4_readFrom_x82 levels_l7_x stairs_l42_x ((fX4_readFrom_l82 p0_size p0_letters 33 ((fX2_heightsBehind p0_size p0_letters) + (1 : Int32)) heights (0 : Int32)).1) ((fX4_readFrom_l82 p0_size p0_letters 33 ((fX2_heightsBehind p0_size p0_letters) + (1 : Int32)) heights (0 : Int32)).2))
def fX4_readFrom_x7 (heights : Nat → Int32) (p0_size : Int32) (p0_letters : Nat → Int32) (levels_l7_x : Nat → Int32) : (Nat → Int32) × (Nat → Int32) × Int32 × Int32 := (fX4_readFrom_x42 heights p0_size p0_letters levels_l7_x (fX4_readFrom_l42 p0_size p0_letters 33 (9 : Int32) (0 : Int32)))
def fX4_readFrom (levels : Nat → Int32) (heights : Nat → Int32) (p0_size : Int32) (p0_letters : Nat → Int32) : (Nat → Int32) × (Nat → Int32) × Int32 × Int32 := (fX4_readFrom_x7 heights p0_size p0_letters (fX4_readFrom_l7 p0_letters 9 (0 : Int32) levels))
abbrev rmX4_readFrom : Room := { frames := 1, cells := 0, slots := 0, locals := 21 }
theorem eX4_readFrom_0 : ∀ w ∈ u_ws RX4 TX4 4, w ∈ wsX4_readFrom := by decide +kernel
theorem eX4_readFrom_1 : (Cond.fieldLink RX4 9 "LowWater$Shore" "levels" "[I" : Cond) ∈ wsX4_readFrom := by decide +kernel
theorem eX4_readFrom_2 : ∀ w ∈ u_ws RX2 TX2 2, w ∈ wsX4_readFrom := by decide +kernel
theorem eX4_readFrom_3 : (Cond.fieldLink RX4 31 "LowWater$Page" "letters" "[C" : Cond) ∈ wsX4_readFrom := by decide +kernel
theorem eX4_readFrom_4 : (Cond.fieldLink RX4 22 "LowWater$Shore" "stairs" "I" : Cond) ∈ wsX4_readFrom := by decide +kernel
theorem eX4_readFrom_5 : (Cond.fieldLink RX4 18 "LowWater$Shore" "heightCount" "I" : Cond) ∈ wsX4_readFrom := by decide +kernel
theorem eX4_readFrom_6 : (Cond.fieldLink RX4 35 "LowWater$Page" "size" "I" : Cond) ∈ wsX4_readFrom := by decide +kernel
theorem eX4_readFrom_7 : (Cond.fieldLink RX4 15 "LowWater$Shore" "heights" "[I" : Cond) ∈ wsX4_readFrom := by decide +kernel
set_option maxHeartbeats 4000000 in
set_option maxRecDepth 100000 in
theorem mX4_readFrom (l : Launch) (dC : Nat → ClassId) (dI : Nat → Nat → Nat) (cyI cyC cyZ : ClassId) (tF tE : Nat) (a_this : Nat) (a_p0 : Nat) (a_this_levels : Nat) (a_this_heights : Nat) (a_p0_letters : Nat) (sz : Nat) (heightCount : Int32) (stairs : Int32) (levels : Nat → Int32) (heights : Nat → Int32) (p0_size : Int32) (p0_letters : Nat → Int32) (h0 : p0_size ≤ 32) (T : (Nat → Int32) × (Nat → Int32) × Int32 × Int32) (hT : fX4_readFrom levels heights p0_size p0_letters = T) : Met l yX4_readFrom wsX4_readFrom rmX4_readFrom (va_Pc [.ref a_this, .ref a_p0] (fun U => U.heap.size = sz ∧ va_P (dC, dI) vwCl [(a_this, .inr (4, [.ref a_this_levels, .ref a_this_heights, .int heightCount, .int stairs])), (a_this_levels, .inl (cyI, 8, .inl levels)), (a_this_heights, .inl (cyI, 12, .inl heights)), (a_p0, .inr (2, [.ref a_p0_letters, .int p0_size])), (a_p0_letters, .inl (cyC, 32, .inl p0_letters))] U.heap ∧ va_D (fun _ => True) [(a_this, .inr (4, [.ref a_this_levels, .ref a_this_heights, .int heightCount, .int stairs])), (a_this_levels, .inl (cyI, 8, .inl levels)), (a_this_heights, .inl (cyI, 12, .inl heights)), (a_p0, .inr (2, [.ref a_p0_letters, .int p0_size])), (a_p0_letters, .inl (cyC, 32, .inl p0_letters))] ∧ zE (va_A [(a_this, .inr (4, [.ref a_this_levels, .ref a_this_heights, .int heightCount, .int stairs])), (a_this_levels, .inl (cyI, 8, .inl levels)), (a_this_heights, .inl (cyI, 12, .inl heights)), (a_p0, .inr (2, [.ref a_p0_letters, .int p0_size])), (a_p0_letters, .inl (cyC, 32, .inl p0_letters))] sz) dC dI cyI cyC cyZ tF tE U U.heap)) (va_Qv (fun (u : (Nat → Int32) × (Nat → Int32) × Int32 × Int32) => u = T) (fun u t => va_P (dC, dI) vwCl [(a_this, .inr (4, [.ref a_this_levels, .ref a_this_heights, .int u.2.2.1, .int u.2.2.2])), (a_this_levels, .inl (cyI, 8, .inl u.1)), (a_this_heights, .inl (cyI, 12, .inl u.2.1)), (a_p0, .inr (2, [.ref a_p0_letters, .int p0_size])), (a_p0_letters, .inl (cyC, 32, .inl p0_letters))] t.heap ∧ va_K (dC, dI) vwCl (zY cyI cyC cyZ) t ∧ va_D (va_A [(a_this, .inr (4, [.ref a_this_levels, .ref a_this_heights, .int heightCount, .int stairs])), (a_this_levels, .inl (cyI, 8, .inl levels)), (a_this_heights, .inl (cyI, 12, .inl heights)), (a_p0, .inr (2, [.ref a_p0_letters, .int p0_size])), (a_p0_letters, .inl (cyC, 32, .inl p0_letters))] sz) [(a_this, .inr (4, [.ref a_this_levels, .ref a_this_heights, .int u.2.2.1, .int u.2.2.2])), (a_this_levels, .inl (cyI, 8, .inl u.1)), (a_this_heights, .inl (cyI, 12, .inl u.2.1)), (a_p0, .inr (2, [.ref a_p0_letters, .int p0_size])), (a_p0_letters, .inl (cyC, 32, .inl p0_letters))]) (va_A [(a_this, .inr (4, [.ref a_this_levels, .ref a_this_heights, .int heightCount, .int stairs])), (a_this_levels, .inl (cyI, 8, .inl levels)), (a_this_heights, .inl (cyI, 12, .inl heights)), (a_p0, .inr (2, [.ref a_p0_letters, .int p0_size])), (a_p0_letters, .inl (cyC, 32, .inl p0_letters))] sz)) 0 0 (va_A [(a_this, .inr (4, [.ref a_this_levels, .ref a_this_heights, .int heightCount, .int stairs])), (a_this_levels, .inl (cyI, 8, .inl levels)), (a_this_heights, .inl (cyI, 12, .inl heights)), (a_p0, .inr (2, [.ref a_p0_letters, .int p0_size])), (a_p0_letters, .inl (cyC, 32, .inl p0_letters))] sz) := by
  rw [fX4_readFrom] at hT
  refine z_wv (cc := cX4_readFrom) (maxL := 4) (B := fun A U => zE A dC dI cyI cyC cyZ tF tE U U.heap) (post := (fun (u : (Nat → Int32) × (Nat → Int32) × Int32 × Int32) => u = T)) (Bq := (fun A u t => va_P (dC, dI) vwCl [(a_this, .inr (4, [.ref a_this_levels, .ref a_this_heights, .int u.2.2.1, .int u.2.2.2])), (a_this_levels, .inl (cyI, 8, .inl u.1)), (a_this_heights, .inl (cyI, 12, .inl u.2.1)), (a_p0, .inr (2, [.ref a_p0_letters, .int p0_size])), (a_p0_letters, .inl (cyC, 32, .inl p0_letters))] t.heap ∧ va_K (dC, dI) vwCl (zY cyI cyC cyZ) t ∧ va_D A [(a_this, .inr (4, [.ref a_this_levels, .ref a_this_heights, .int u.2.2.1, .int u.2.2.2])), (a_this_levels, .inl (cyI, 8, .inl u.1)), (a_this_heights, .inl (cyI, 12, .inl u.2.1)), (a_p0, .inr (2, [.ref a_p0_letters, .int p0_size])), (a_p0_letters, .inl (cyC, 32, .inl p0_letters))])) (by decide) rfl (Nat.le_of_ble_eq_true rfl) ?_
  intro p e s m below meth c Q A hx hb hml hown hin hts hP hD hE hA hret ls hl
  have hown : s.vm.findClass RX4 = some m.cls := hown
  have hS : va_S A s.heap s.heap [] := va_S.rf
  have hl : lv_has ls 4 [(0, .ref a_this), (1, .ref a_p0)] := hl
  refine lv_aload_n hx hb dX4_readFrom_0 rfl (lv_at hl 1 rfl) ?_
  refine vp_callSi (va_Run.run (va_runV (As := []) (rest := []) ⟨hx, hb, hml, hown, hts⟩ (mX2_heightsBehind l dC dI cyI cyC cyZ tF tE a_p0 a_p0_letters p0_size p0_letters (show p0_size ≤ 32 by simp only [vp_in_iff, ← Int32.toInt_inj, Int32.le_iff_toInt_le, Int32.lt_iff_toInt_lt, Int32.toInt_add, Int32.toInt_sub, Int32.toInt_mul, Int.bmod, Int32.reduceToInt, Nat.reducePow, Int32.toInt_toInt64, Int64.reduceToInt] at h0 ⊢ <;> omega) _ rfl) (cwV 0 hts gX4_readFrom_X2_heightsBehind rfl rfl rfl (by decide +kernel) ⟨(Nat.le_of_ble_eq_true rfl), (Nat.le_of_ble_eq_true rfl)⟩) ⟨z_bp, va_recv hE.1 hP (ci := 2) (q0 := 3) rfl rfl, fun U hU hW => ⟨rfl, by rw [hU]; exact hP.sub (ws' := [(a_p0, .inr (2, [.ref a_p0_letters, .int p0_size])), (a_p0_letters, .inl (cyC, 32, .inl p0_letters))]) [3, 4] rfl, hE.to hS (fun _ h => h.elim) hU hW⟩⟩ rfl rfl hl.1 rfl (lv_room (Nat.le_of_ble_eq_true rfl)) dX4_readFrom_1 ⟨Nat.zero_le _, Nat.zero_le _⟩)) (fun r_1 hr_1 => ?_)
  obtain rfl := hr_1
  have hq_1 := zX2_heightsBehind p0_size p0_letters 
  refine lv_istore_n (lv' := [(2, .int (fX2_heightsBehind p0_size p0_letters)), (0, .ref a_this), (1, .ref a_p0)]) hx hb dX4_readFrom_4 rfl hl (by decide) rfl (fun ls hl => ?_)
  refine lv_iconst (v := (0 : Int32)) hx hb dX4_readFrom_5 (by decide) ?_
  refine lv_istore_n (lv' := [(3, .int (0 : Int32)), (2, .int (fX2_heightsBehind p0_size p0_letters)), (0, .ref a_this), (1, .ref a_p0)]) hx hb dX4_readFrom_6 rfl hl (by decide) rfl (fun ls hl => ?_)
  have Ll7 : ∀ (n : Nat) (y3_l7 : Int32) (levels_l7 : Nat → Int32), 0 ≤ y3_l7 → (((8 : Int32)).toInt - (y3_l7).toInt).toNat < n → ∀ (T_l7 : (Nat → Int32)), fX4_readFrom_l7 p0_letters n y3_l7 levels_l7 = T_l7 → (∀ (H : Heap) (locs : List Loc), va_P (dC, dI) vwCl [(a_this, .inr (4, [.ref a_this_levels, .ref a_this_heights, .int heightCount, .int stairs])), (a_this_levels, .inl (cyI, 8, .inl T_l7)), (a_this_heights, .inl (cyI, 12, .inl heights)), (a_p0, .inr (2, [.ref a_p0_letters, .int p0_size])), (a_p0_letters, .inl (cyC, 32, .inl p0_letters))] H → va_D A [(a_this, .inr (4, [.ref a_this_levels, .ref a_this_heights, .int heightCount, .int stairs])), (a_this_levels, .inl (cyI, 8, .inl T_l7)), (a_this_heights, .inl (cyI, 12, .inl heights)), (a_p0, .inr (2, [.ref a_p0_letters, .int p0_size])), (a_p0_letters, .inl (cyC, 32, .inl p0_letters))] → va_S A s.heap H locs → ∀ (ls : Array Slot), lv_has ls 4 [(2, .int (fX2_heightsBehind p0_size p0_letters)), (0, .ref a_this), (1, .ref a_p0)] → W p l e (headSpec wsX4_readFrom rmX4_readFrom).room s m ([.ref a_this, .ref a_p0] : List Value).toArray below meth c H locs 0 0 Q (F0 m 34 ls [])) → ∀ (H : Heap) (locs : List Loc), va_P (dC, dI) vwCl [(a_this, .inr (4, [.ref a_this_levels, .ref a_this_heights, .int heightCount, .int stairs])), (a_this_levels, .inl (cyI, 8, .inl levels_l7)), (a_this_heights, .inl (cyI, 12, .inl heights)), (a_p0, .inr (2, [.ref a_p0_letters, .int p0_size])), (a_p0_letters, .inl (cyC, 32, .inl p0_letters))] H → va_D A [(a_this, .inr (4, [.ref a_this_levels, .ref a_this_heights, .int heightCount, .int stairs])), (a_this_levels, .inl (cyI, 8, .inl levels_l7)), (a_this_heights, .inl (cyI, 12, .inl heights)), (a_p0, .inr (2, [.ref a_p0_letters, .int p0_size])), (a_p0_letters, .inl (cyC, 32, .inl p0_letters))] → va_S A s.heap H locs → ∀ (ls : Array Slot), lv_has ls 4 [(3, .int y3_l7), (2, .int (fX2_heightsBehind p0_size p0_letters)), (0, .ref a_this), (1, .ref a_p0)] → W p l e (headSpec wsX4_readFrom rmX4_readFrom).room s m ([.ref a_this, .ref a_p0] : List Value).toArray below meth c H locs 0 0 Q (F0 m 7 ls []) := by
    intro n
    induction n with
    | zero => intro y3_l7 levels_l7 hIl7_0 hm_; exact absurd hm_ (Nat.not_lt_zero _)
    | succ n ih =>
      intro y3_l7 levels_l7 hIl7_0 hm_ T_l7 hT hK_ H locs hP hD hS ls hl
      rw [fX4_readFrom_l7] at hT
      refine lv_iload_n hx hb dX4_readFrom_7 rfl (lv_at hl 0 rfl) ?_
      refine lv_bipush (v := (8 : Int32)) hx hb dX4_readFrom_8 (by decide) ?_
      refine lv_icmp_ge (tgt := 34) hx hb dX4_readFrom_10 (by decide) (fun c_2 => ?_) (fun c_2 => ?_)
      · have hT := (if_pos c_2).symm.trans hT
        subst hT
        exact hK_ _ _ hP hD hS ls (lv_sub hl [1, 2, 3] rfl)
      · have hT := (if_neg c_2).symm.trans hT
        refine lv_aload_n hx hb dX4_readFrom_13 rfl (lv_at hl 2 rfl) ?_
        refine va_get (D := (dC, dI)) (ci := 4) (v := .ref a_this_levels) (C := RX4) (T := TX4) (N := 4) hx hb hts eX4_readFrom_0 hown hE.1 hP 0 rfl rfl 0 (by decide) (hts _ eX4_readFrom_1) (fun _ h9 => h9) rfl dX4_readFrom_14 ?_
        refine lv_iload_n hx hb dX4_readFrom_17 rfl (lv_at hl 0 rfl) ?_
        refine lv_aload_n hx hb dX4_readFrom_18 rfl (lv_at hl 3 rfl) ?_
        refine va_get (D := (dC, dI)) (ci := 2) (v := .ref a_p0_letters) (C := RX2) (T := TX2) (N := 2) hx hb hts eX4_readFrom_2 hown hE.1 hP 3 rfl rfl 0 (by decide) (hts _ eX4_readFrom_3) (fun _ h9 => h9) rfl dX4_readFrom_19 ?_
        refine lv_iload_n hx hb dX4_readFrom_22 rfl (lv_at hl 0 rfl) ?_
        refine va_cald hx hb hE.1 hP 4 1 rfl rfl (show vp_in y3_l7 32 by simp only [vp_in_iff, ← Int32.toInt_inj, Int32.le_iff_toInt_le, Int32.lt_iff_toInt_lt, Int32.toInt_add, Int32.toInt_sub, Int32.toInt_mul, Int.bmod, Int32.reduceToInt, Nat.reducePow, Int32.toInt_toInt64, Int64.reduceToInt] at h0 hq_1 hIl7_0 c_2 ⊢ <;> omega) dX4_readFrom_23 ?_
        refine lv_bipush (v := (48 : Int32)) hx hb dX4_readFrom_24 (by decide) ?_
        refine lv_isub hx hb dX4_readFrom_26 ?_
        refine va_iast hx hb hE.1 hP hD hS 1 0 rfl rfl (show vp_in y3_l7 8 by simp only [vp_in_iff, ← Int32.toInt_inj, Int32.le_iff_toInt_le, Int32.lt_iff_toInt_lt, Int32.toInt_add, Int32.toInt_sub, Int32.toInt_mul, Int.bmod, Int32.reduceToInt, Nat.reducePow, Int32.toInt_toInt64, Int64.reduceToInt] at h0 hq_1 hIl7_0 c_2 ⊢ <;> omega) dX4_readFrom_27 (fun H locs hP hD hS => ?_)
        have hP : va_P (dC, dI) vwCl [(a_this, .inr (4, [.ref a_this_levels, .ref a_this_heights, .int heightCount, .int stairs])), (a_this_levels, .inl (cyI, 8, .inl (upd levels_l7 y3_l7.toNatClampNeg ((p0_letters y3_l7.toNatClampNeg) - (48 : Int32))))), (a_this_heights, .inl (cyI, 12, .inl heights)), (a_p0, .inr (2, [.ref a_p0_letters, .int p0_size])), (a_p0_letters, .inl (cyC, 32, .inl p0_letters))] H := hP
        have hD : va_D A [(a_this, .inr (4, [.ref a_this_levels, .ref a_this_heights, .int heightCount, .int stairs])), (a_this_levels, .inl (cyI, 8, .inl (upd levels_l7 y3_l7.toNatClampNeg ((p0_letters y3_l7.toNatClampNeg) - (48 : Int32))))), (a_this_heights, .inl (cyI, 12, .inl heights)), (a_p0, .inr (2, [.ref a_p0_letters, .int p0_size])), (a_p0_letters, .inl (cyC, 32, .inl p0_letters))] := hD
        refine lv_iinc (v := (y3_l7 + 1)) (lv' := [(3, .int (y3_l7 + 1)), (2, .int (fX2_heightsBehind p0_size p0_letters)), (0, .ref a_this), (1, .ref a_p0)]) hx hb dX4_readFrom_28 hl (k := 0) rfl rfl (by decide) rfl (fun ls hl => ?_)
        refine lv_goto (tgt := 7) hx hb dX4_readFrom_31 (by decide) ?_
        exact ih (y3_l7 + 1) (upd levels_l7 y3_l7.toNatClampNeg ((p0_letters y3_l7.toNatClampNeg) - (48 : Int32))) (show 0 ≤ (y3_l7 + 1) by simp only [vp_in_iff, ← Int32.toInt_inj, Int32.le_iff_toInt_le, Int32.lt_iff_toInt_lt, Int32.toInt_add, Int32.toInt_sub, Int32.toInt_mul, Int.bmod, Int32.reduceToInt, Nat.reducePow, Int32.toInt_toInt64, Int64.reduceToInt] at h0 hq_1 hIl7_0 c_2 hm_ ⊢ <;> omega) (show (((8 : Int32)).toInt - ((y3_l7 + 1)).toInt).toNat < n by simp only [vp_in_iff, ← Int32.toInt_inj, Int32.le_iff_toInt_le, Int32.lt_iff_toInt_lt, Int32.toInt_add, Int32.toInt_sub, Int32.toInt_mul, Int.bmod, Int32.reduceToInt, Nat.reducePow, Int32.toInt_toInt64, Int64.reduceToInt] at h0 hq_1 hIl7_0 c_2 hm_ ⊢ <;> omega) _ hT hK_ _ _ hP hD hS ls (lv_sub hl [0, 1, 2, 3] rfl)
  have Xl7 : ∀ (levels_l7_x : Nat → Int32), ∀ (H : Heap) (locs : List Loc), va_P (dC, dI) vwCl [(a_this, .inr (4, [.ref a_this_levels, .ref a_this_heights, .int heightCount, .int stairs])), (a_this_levels, .inl (cyI, 8, .inl levels_l7_x)), (a_this_heights, .inl (cyI, 12, .inl heights)), (a_p0, .inr (2, [.ref a_p0_letters, .int p0_size])), (a_p0_letters, .inl (cyC, 32, .inl p0_letters))] H → va_D A [(a_this, .inr (4, [.ref a_this_levels, .ref a_this_heights, .int heightCount, .int stairs])), (a_this_levels, .inl (cyI, 8, .inl levels_l7_x)), (a_this_heights, .inl (cyI, 12, .inl heights)), (a_p0, .inr (2, [.ref a_p0_letters, .int p0_size])), (a_p0_letters, .inl (cyC, 32, .inl p0_letters))] → va_S A s.heap H locs → ∀ (ls : Array Slot), lv_has ls 4 [(2, .int (fX2_heightsBehind p0_size p0_letters)), (0, .ref a_this), (1, .ref a_p0)] → (fX4_readFrom_x7 heights p0_size p0_letters levels_l7_x) = T → W p l e (headSpec wsX4_readFrom rmX4_readFrom).room s m ([.ref a_this, .ref a_p0] : List Value).toArray below meth c H locs 0 0 Q (F0 m 34 ls []) := by
    intro levels_l7_x H locs hP hD hS ls hl hT
    rw [fX4_readFrom_x7] at hT
    refine lv_aload_n hx hb dX4_readFrom_34 rfl (lv_at hl 1 rfl) ?_
    refine lv_iconst (v := (0 : Int32)) hx hb dX4_readFrom_35 (by decide) ?_
    refine va_put (D := (dC, dI)) (ci := 4) (v := .int (0 : Int32)) (ty := .int) (C := RX4) (T := TX4) (N := 4) hx hb hts eX4_readFrom_0 tyX4 tyX4_ok nmX4 hown hE.1 hP hD hS 0 rfl rfl 3 (by decide) (hts _ eX4_readFrom_4) (fun _ h9 => h9) rfl (by decide +kernel) rfl rfl (Nat.le_of_ble_eq_true rfl) dX4_readFrom_36 (fun H locs hP hD hS => ?_)
    have hP : va_P (dC, dI) vwCl [(a_this, .inr (4, [.ref a_this_levels, .ref a_this_heights, .int heightCount, .int (0 : Int32)])), (a_this_levels, .inl (cyI, 8, .inl levels_l7_x)), (a_this_heights, .inl (cyI, 12, .inl heights)), (a_p0, .inr (2, [.ref a_p0_letters, .int p0_size])), (a_p0_letters, .inl (cyC, 32, .inl p0_letters))] H := hP
    have hD : va_D A [(a_this, .inr (4, [.ref a_this_levels, .ref a_this_heights, .int heightCount, .int (0 : Int32)])), (a_this_levels, .inl (cyI, 8, .inl levels_l7_x)), (a_this_heights, .inl (cyI, 12, .inl heights)), (a_p0, .inr (2, [.ref a_p0_letters, .int p0_size])), (a_p0_letters, .inl (cyC, 32, .inl p0_letters))] := hD
    refine lv_bipush (v := (9 : Int32)) hx hb dX4_readFrom_39 (by decide) ?_
    refine lv_istore_n (lv' := [(3, .int (9 : Int32)), (2, .int (fX2_heightsBehind p0_size p0_letters)), (0, .ref a_this), (1, .ref a_p0)]) hx hb dX4_readFrom_41 rfl hl (by decide) rfl (fun ls hl => ?_)
    have Ll42 : ∀ (n : Nat) (y3_l42 : Int32) (stairs_l42 : Int32), 0 ≤ y3_l42 → (((fX2_heightsBehind p0_size p0_letters)).toInt - (y3_l42).toInt).toNat < n → ∀ (T_l42 : Int32), fX4_readFrom_l42 p0_size p0_letters n y3_l42 stairs_l42 = T_l42 → (∀ (H : Heap) (locs : List Loc), va_P (dC, dI) vwCl [(a_this, .inr (4, [.ref a_this_levels, .ref a_this_heights, .int heightCount, .int T_l42])), (a_this_levels, .inl (cyI, 8, .inl levels_l7_x)), (a_this_heights, .inl (cyI, 12, .inl heights)), (a_p0, .inr (2, [.ref a_p0_letters, .int p0_size])), (a_p0_letters, .inl (cyC, 32, .inl p0_letters))] H → va_D A [(a_this, .inr (4, [.ref a_this_levels, .ref a_this_heights, .int heightCount, .int T_l42])), (a_this_levels, .inl (cyI, 8, .inl levels_l7_x)), (a_this_heights, .inl (cyI, 12, .inl heights)), (a_p0, .inr (2, [.ref a_p0_letters, .int p0_size])), (a_p0_letters, .inl (cyC, 32, .inl p0_letters))] → va_S A s.heap H locs → ∀ (ls : Array Slot), lv_has ls 4 [(2, .int (fX2_heightsBehind p0_size p0_letters)), (0, .ref a_this), (1, .ref a_p0)] → W p l e (headSpec wsX4_readFrom rmX4_readFrom).room s m ([.ref a_this, .ref a_p0] : List Value).toArray below meth c H locs 0 0 Q (F0 m 73 ls [])) → ∀ (H : Heap) (locs : List Loc), va_P (dC, dI) vwCl [(a_this, .inr (4, [.ref a_this_levels, .ref a_this_heights, .int heightCount, .int stairs_l42])), (a_this_levels, .inl (cyI, 8, .inl levels_l7_x)), (a_this_heights, .inl (cyI, 12, .inl heights)), (a_p0, .inr (2, [.ref a_p0_letters, .int p0_size])), (a_p0_letters, .inl (cyC, 32, .inl p0_letters))] H → va_D A [(a_this, .inr (4, [.ref a_this_levels, .ref a_this_heights, .int heightCount, .int stairs_l42])), (a_this_levels, .inl (cyI, 8, .inl levels_l7_x)), (a_this_heights, .inl (cyI, 12, .inl heights)), (a_p0, .inr (2, [.ref a_p0_letters, .int p0_size])), (a_p0_letters, .inl (cyC, 32, .inl p0_letters))] → va_S A s.heap H locs → ∀ (ls : Array Slot), lv_has ls 4 [(3, .int y3_l42), (2, .int (fX2_heightsBehind p0_size p0_letters)), (0, .ref a_this), (1, .ref a_p0)] → W p l e (headSpec wsX4_readFrom rmX4_readFrom).room s m ([.ref a_this, .ref a_p0] : List Value).toArray below meth c H locs 0 0 Q (F0 m 42 ls []) := by
      intro n
      induction n with
      | zero => intro y3_l42 stairs_l42 hIl42_0 hm_; exact absurd hm_ (Nat.not_lt_zero _)
      | succ n ih =>
        intro y3_l42 stairs_l42 hIl42_0 hm_ T_l42 hT hK_ H locs hP hD hS ls hl
        rw [fX4_readFrom_l42] at hT
        refine lv_iload_n hx hb dX4_readFrom_42 rfl (lv_at hl 0 rfl) ?_
        refine lv_iload_n hx hb dX4_readFrom_43 rfl (lv_at hl 1 rfl) ?_
        refine lv_icmp_ge (tgt := 73) hx hb dX4_readFrom_44 (by decide) (fun c_3 => ?_) (fun c_3 => ?_)
        · have hT := (if_pos c_3).symm.trans hT
          subst hT
          exact hK_ _ _ hP hD hS ls (lv_sub hl [1, 2, 3] rfl)
        · have hT := (if_neg c_3).symm.trans hT
          refine lv_aload_n hx hb dX4_readFrom_47 rfl (lv_at hl 2 rfl) ?_
          refine lv_dup hx hb dX4_readFrom_48 rfl ?_
          refine va_get (D := (dC, dI)) (ci := 4) (v := .int stairs_l42) (C := RX4) (T := TX4) (N := 4) hx hb hts eX4_readFrom_0 hown hE.1 hP 0 rfl rfl 3 (by decide) (hts _ eX4_readFrom_4) (fun _ h9 => h9) rfl dX4_readFrom_49 ?_
          refine lv_iconst (v := (1 : Int32)) hx hb dX4_readFrom_52 (by decide) ?_
          refine lv_aload_n hx hb dX4_readFrom_53 rfl (lv_at hl 3 rfl) ?_
          refine va_get (D := (dC, dI)) (ci := 2) (v := .ref a_p0_letters) (C := RX2) (T := TX2) (N := 2) hx hb hts eX4_readFrom_2 hown hE.1 hP 3 rfl rfl 0 (by decide) (hts _ eX4_readFrom_3) (fun _ h9 => h9) rfl dX4_readFrom_54 ?_
          refine lv_iload_n hx hb dX4_readFrom_57 rfl (lv_at hl 0 rfl) ?_
          refine va_cald hx hb hE.1 hP 4 1 rfl rfl (show vp_in y3_l42 32 by simp only [vp_in_iff, ← Int32.toInt_inj, Int32.le_iff_toInt_le, Int32.lt_iff_toInt_lt, Int32.toInt_add, Int32.toInt_sub, Int32.toInt_mul, Int.bmod, Int32.reduceToInt, Nat.reducePow, Int32.toInt_toInt64, Int64.reduceToInt] at h0 hq_1 hIl42_0 c_3 ⊢ <;> omega) dX4_readFrom_58 ?_
          refine lv_bipush (v := (48 : Int32)) hx hb dX4_readFrom_59 (by decide) ?_
          refine lv_isub hx hb dX4_readFrom_61 ?_
          refine lv_ishl hx hb dX4_readFrom_62 ?_
          refine lv_topi (fun v_4 ev_4 => ?_)
          obtain rfl : v_4 = (jshl (1 : Int32) ((p0_letters y3_l42.toNatClampNeg) - (48 : Int32))) := ev_4
          refine lv_ior hx hb dX4_readFrom_63 ?_
          refine va_put (D := (dC, dI)) (ci := 4) (v := .int (stairs_l42 ||| (jshl (1 : Int32) ((p0_letters y3_l42.toNatClampNeg) - (48 : Int32))))) (ty := .int) (C := RX4) (T := TX4) (N := 4) hx hb hts eX4_readFrom_0 tyX4 tyX4_ok nmX4 hown hE.1 hP hD hS 0 rfl rfl 3 (by decide) (hts _ eX4_readFrom_4) (fun _ h9 => h9) rfl (by decide +kernel) rfl rfl (Nat.le_of_ble_eq_true rfl) dX4_readFrom_64 (fun H locs hP hD hS => ?_)
          have hP : va_P (dC, dI) vwCl [(a_this, .inr (4, [.ref a_this_levels, .ref a_this_heights, .int heightCount, .int (stairs_l42 ||| (jshl (1 : Int32) ((p0_letters y3_l42.toNatClampNeg) - (48 : Int32))))])), (a_this_levels, .inl (cyI, 8, .inl levels_l7_x)), (a_this_heights, .inl (cyI, 12, .inl heights)), (a_p0, .inr (2, [.ref a_p0_letters, .int p0_size])), (a_p0_letters, .inl (cyC, 32, .inl p0_letters))] H := hP
          have hD : va_D A [(a_this, .inr (4, [.ref a_this_levels, .ref a_this_heights, .int heightCount, .int (stairs_l42 ||| (jshl (1 : Int32) ((p0_letters y3_l42.toNatClampNeg) - (48 : Int32))))])), (a_this_levels, .inl (cyI, 8, .inl levels_l7_x)), (a_this_heights, .inl (cyI, 12, .inl heights)), (a_p0, .inr (2, [.ref a_p0_letters, .int p0_size])), (a_p0_letters, .inl (cyC, 32, .inl p0_letters))] := hD
          refine lv_iinc (v := (y3_l42 + 1)) (lv' := [(3, .int (y3_l42 + 1)), (2, .int (fX2_heightsBehind p0_size p0_letters)), (0, .ref a_this), (1, .ref a_p0)]) hx hb dX4_readFrom_67 hl (k := 0) rfl rfl (by decide) rfl (fun ls hl => ?_)
          refine lv_goto (tgt := 42) hx hb dX4_readFrom_70 (by decide) ?_
          exact ih (y3_l42 + 1) (stairs_l42 ||| (jshl (1 : Int32) ((p0_letters y3_l42.toNatClampNeg) - (48 : Int32)))) (show 0 ≤ (y3_l42 + 1) by simp only [vp_in_iff, ← Int32.toInt_inj, Int32.le_iff_toInt_le, Int32.lt_iff_toInt_lt, Int32.toInt_add, Int32.toInt_sub, Int32.toInt_mul, Int.bmod, Int32.reduceToInt, Nat.reducePow, Int32.toInt_toInt64, Int64.reduceToInt] at h0 hq_1 hIl42_0 c_3 hm_ ⊢ <;> omega) (show (((fX2_heightsBehind p0_size p0_letters)).toInt - ((y3_l42 + 1)).toInt).toNat < n by simp only [vp_in_iff, ← Int32.toInt_inj, Int32.le_iff_toInt_le, Int32.lt_iff_toInt_lt, Int32.toInt_add, Int32.toInt_sub, Int32.toInt_mul, Int.bmod, Int32.reduceToInt, Nat.reducePow, Int32.toInt_toInt64, Int64.reduceToInt] at h0 hq_1 hIl42_0 c_3 hm_ ⊢ <;> omega) _ hT hK_ _ _ hP hD hS ls (lv_sub hl [0, 1, 2, 3] rfl)
    have Xl42 : ∀ (stairs_l42_x : Int32), ∀ (H : Heap) (locs : List Loc), va_P (dC, dI) vwCl [(a_this, .inr (4, [.ref a_this_levels, .ref a_this_heights, .int heightCount, .int stairs_l42_x])), (a_this_levels, .inl (cyI, 8, .inl levels_l7_x)), (a_this_heights, .inl (cyI, 12, .inl heights)), (a_p0, .inr (2, [.ref a_p0_letters, .int p0_size])), (a_p0_letters, .inl (cyC, 32, .inl p0_letters))] H → va_D A [(a_this, .inr (4, [.ref a_this_levels, .ref a_this_heights, .int heightCount, .int stairs_l42_x])), (a_this_levels, .inl (cyI, 8, .inl levels_l7_x)), (a_this_heights, .inl (cyI, 12, .inl heights)), (a_p0, .inr (2, [.ref a_p0_letters, .int p0_size])), (a_p0_letters, .inl (cyC, 32, .inl p0_letters))] → va_S A s.heap H locs → ∀ (ls : Array Slot), lv_has ls 4 [(2, .int (fX2_heightsBehind p0_size p0_letters)), (0, .ref a_this), (1, .ref a_p0)] → (fX4_readFrom_x42 heights p0_size p0_letters levels_l7_x stairs_l42_x) = T → W p l e (headSpec wsX4_readFrom rmX4_readFrom).room s m ([.ref a_this, .ref a_p0] : List Value).toArray below meth c H locs 0 0 Q (F0 m 73 ls []) := by
      intro stairs_l42_x H locs hP hD hS ls hl hT
      rw [fX4_readFrom_x42] at hT
      refine lv_aload_n hx hb dX4_readFrom_73 rfl (lv_at hl 1 rfl) ?_
      refine lv_iconst (v := (0 : Int32)) hx hb dX4_readFrom_74 (by decide) ?_
      refine va_put (D := (dC, dI)) (ci := 4) (v := .int (0 : Int32)) (ty := .int) (C := RX4) (T := TX4) (N := 4) hx hb hts eX4_readFrom_0 tyX4 tyX4_ok nmX4 hown hE.1 hP hD hS 0 rfl rfl 2 (by decide) (hts _ eX4_readFrom_5) (fun _ h9 => h9) rfl (by decide +kernel) rfl rfl (Nat.le_of_ble_eq_true rfl) dX4_readFrom_75 (fun H locs hP hD hS => ?_)
      have hP : va_P (dC, dI) vwCl [(a_this, .inr (4, [.ref a_this_levels, .ref a_this_heights, .int (0 : Int32), .int stairs_l42_x])), (a_this_levels, .inl (cyI, 8, .inl levels_l7_x)), (a_this_heights, .inl (cyI, 12, .inl heights)), (a_p0, .inr (2, [.ref a_p0_letters, .int p0_size])), (a_p0_letters, .inl (cyC, 32, .inl p0_letters))] H := hP
      have hD : va_D A [(a_this, .inr (4, [.ref a_this_levels, .ref a_this_heights, .int (0 : Int32), .int stairs_l42_x])), (a_this_levels, .inl (cyI, 8, .inl levels_l7_x)), (a_this_heights, .inl (cyI, 12, .inl heights)), (a_p0, .inr (2, [.ref a_p0_letters, .int p0_size])), (a_p0_letters, .inl (cyC, 32, .inl p0_letters))] := hD
      refine lv_iload_n hx hb dX4_readFrom_78 rfl (lv_at hl 0 rfl) ?_
      refine lv_iconst (v := (1 : Int32)) hx hb dX4_readFrom_79 (by decide) ?_
      refine lv_iadd hx hb dX4_readFrom_80 ?_
      refine lv_istore_n (lv' := [(3, .int ((fX2_heightsBehind p0_size p0_letters) + (1 : Int32))), (2, .int (fX2_heightsBehind p0_size p0_letters)), (0, .ref a_this), (1, .ref a_p0)]) hx hb dX4_readFrom_81 rfl hl (by decide) rfl (fun ls hl => ?_)
      have Ll82 : ∀ (n : Nat) (y3_l82 : Int32) (heights_l82 : Nat → Int32) (heightCount_l82 : Int32), 0 ≤ y3_l82 → 0 ≤ heightCount_l82 → ((p0_size).toInt - (y3_l82).toInt).toNat < n → ∀ (T_l82 : (Nat → Int32) × Int32), fX4_readFrom_l82 p0_size p0_letters n y3_l82 heights_l82 heightCount_l82 = T_l82 → (∀ (H : Heap) (locs : List Loc), va_P (dC, dI) vwCl [(a_this, .inr (4, [.ref a_this_levels, .ref a_this_heights, .int T_l82.2, .int stairs_l42_x])), (a_this_levels, .inl (cyI, 8, .inl levels_l7_x)), (a_this_heights, .inl (cyI, 12, .inl T_l82.1)), (a_p0, .inr (2, [.ref a_p0_letters, .int p0_size])), (a_p0_letters, .inl (cyC, 32, .inl p0_letters))] H → va_D A [(a_this, .inr (4, [.ref a_this_levels, .ref a_this_heights, .int T_l82.2, .int stairs_l42_x])), (a_this_levels, .inl (cyI, 8, .inl levels_l7_x)), (a_this_heights, .inl (cyI, 12, .inl T_l82.1)), (a_p0, .inr (2, [.ref a_p0_letters, .int p0_size])), (a_p0_letters, .inl (cyC, 32, .inl p0_letters))] → va_S A s.heap H locs → ∀ (ls : Array Slot), lv_has ls 4 [] → W p l e (headSpec wsX4_readFrom rmX4_readFrom).room s m ([.ref a_this, .ref a_p0] : List Value).toArray below meth c H locs 0 0 Q (F0 m 133 ls [])) → ∀ (H : Heap) (locs : List Loc), va_P (dC, dI) vwCl [(a_this, .inr (4, [.ref a_this_levels, .ref a_this_heights, .int heightCount_l82, .int stairs_l42_x])), (a_this_levels, .inl (cyI, 8, .inl levels_l7_x)), (a_this_heights, .inl (cyI, 12, .inl heights_l82)), (a_p0, .inr (2, [.ref a_p0_letters, .int p0_size])), (a_p0_letters, .inl (cyC, 32, .inl p0_letters))] H → va_D A [(a_this, .inr (4, [.ref a_this_levels, .ref a_this_heights, .int heightCount_l82, .int stairs_l42_x])), (a_this_levels, .inl (cyI, 8, .inl levels_l7_x)), (a_this_heights, .inl (cyI, 12, .inl heights_l82)), (a_p0, .inr (2, [.ref a_p0_letters, .int p0_size])), (a_p0_letters, .inl (cyC, 32, .inl p0_letters))] → va_S A s.heap H locs → ∀ (ls : Array Slot), lv_has ls 4 [(3, .int y3_l82), (0, .ref a_this), (1, .ref a_p0)] → W p l e (headSpec wsX4_readFrom rmX4_readFrom).room s m ([.ref a_this, .ref a_p0] : List Value).toArray below meth c H locs 0 0 Q (F0 m 82 ls []) := by
        intro n
        induction n with
        | zero => intro y3_l82 heights_l82 heightCount_l82 hIl82_0 hIl82_1 hm_; exact absurd hm_ (Nat.not_lt_zero _)
        | succ n ih =>
          intro y3_l82 heights_l82 heightCount_l82 hIl82_0 hIl82_1 hm_ T_l82 hT hK_ H locs hP hD hS ls hl
          rw [fX4_readFrom_l82] at hT
          refine lv_iload_n hx hb dX4_readFrom_82 rfl (lv_at hl 0 rfl) ?_
          refine lv_aload_n hx hb dX4_readFrom_83 rfl (lv_at hl 2 rfl) ?_
          refine va_get (D := (dC, dI)) (ci := 2) (v := .int p0_size) (C := RX2) (T := TX2) (N := 2) hx hb hts eX4_readFrom_2 hown hE.1 hP 3 rfl rfl 1 (by decide) (hts _ eX4_readFrom_6) (fun _ h9 => h9) rfl dX4_readFrom_84 ?_
          refine lv_icmp_ge (tgt := 133) hx hb dX4_readFrom_87 (by decide) (fun c_5 => ?_) (fun c_5 => ?_)
          · have hT := (if_pos c_5).symm.trans hT
            subst hT
            exact hK_ _ _ hP hD hS ls (lv_sub hl [] rfl)
          · have hT := (if_neg c_5).symm.trans hT
            refine lv_aload_n hx hb dX4_readFrom_90 rfl (lv_at hl 1 rfl) ?_
            refine va_get (D := (dC, dI)) (ci := 4) (v := .int heightCount_l82) (C := RX4) (T := TX4) (N := 4) hx hb hts eX4_readFrom_0 hown hE.1 hP 0 rfl rfl 2 (by decide) (hts _ eX4_readFrom_5) (fun _ h9 => h9) rfl dX4_readFrom_91 ?_
            refine lv_bipush (v := (12 : Int32)) hx hb dX4_readFrom_94 (by decide) ?_
            refine lv_icmp_ge (tgt := 133) hx hb dX4_readFrom_96 (by decide) (fun c_6 => ?_) (fun c_6 => ?_)
            · have hT := (if_pos c_6).symm.trans hT
              subst hT
              exact hK_ _ _ hP hD hS ls (lv_sub hl [] rfl)
            · have hT := (if_neg c_6).symm.trans hT
              refine lv_aload_n hx hb dX4_readFrom_99 rfl (lv_at hl 1 rfl) ?_
              refine va_get (D := (dC, dI)) (ci := 4) (v := .ref a_this_heights) (C := RX4) (T := TX4) (N := 4) hx hb hts eX4_readFrom_0 hown hE.1 hP 0 rfl rfl 1 (by decide) (hts _ eX4_readFrom_7) (fun _ h9 => h9) rfl dX4_readFrom_100 ?_
              refine lv_aload_n hx hb dX4_readFrom_103 rfl (lv_at hl 1 rfl) ?_
              refine va_get (D := (dC, dI)) (ci := 4) (v := .int heightCount_l82) (C := RX4) (T := TX4) (N := 4) hx hb hts eX4_readFrom_0 hown hE.1 hP 0 rfl rfl 2 (by decide) (hts _ eX4_readFrom_5) (fun _ h9 => h9) rfl dX4_readFrom_104 ?_
              refine lv_aload_n hx hb dX4_readFrom_107 rfl (lv_at hl 2 rfl) ?_
              refine va_get (D := (dC, dI)) (ci := 2) (v := .ref a_p0_letters) (C := RX2) (T := TX2) (N := 2) hx hb hts eX4_readFrom_2 hown hE.1 hP 3 rfl rfl 0 (by decide) (hts _ eX4_readFrom_3) (fun _ h9 => h9) rfl dX4_readFrom_108 ?_
              refine lv_iload_n hx hb dX4_readFrom_111 rfl (lv_at hl 0 rfl) ?_
              refine va_cald hx hb hE.1 hP 4 1 rfl rfl (show vp_in y3_l82 32 by simp only [vp_in_iff, ← Int32.toInt_inj, Int32.le_iff_toInt_le, Int32.lt_iff_toInt_lt, Int32.toInt_add, Int32.toInt_sub, Int32.toInt_mul, Int.bmod, Int32.reduceToInt, Nat.reducePow, Int32.toInt_toInt64, Int64.reduceToInt] at h0 hq_1 hIl82_0 hIl82_1 c_5 c_6 ⊢ <;> omega) dX4_readFrom_112 ?_
              refine lv_bipush (v := (48 : Int32)) hx hb dX4_readFrom_113 (by decide) ?_
              refine lv_isub hx hb dX4_readFrom_115 ?_
              refine va_iast hx hb hE.1 hP hD hS 2 0 rfl rfl (show vp_in heightCount_l82 12 by simp only [vp_in_iff, ← Int32.toInt_inj, Int32.le_iff_toInt_le, Int32.lt_iff_toInt_lt, Int32.toInt_add, Int32.toInt_sub, Int32.toInt_mul, Int.bmod, Int32.reduceToInt, Nat.reducePow, Int32.toInt_toInt64, Int64.reduceToInt] at h0 hq_1 hIl82_0 hIl82_1 c_5 c_6 ⊢ <;> omega) dX4_readFrom_116 (fun H locs hP hD hS => ?_)
              have hP : va_P (dC, dI) vwCl [(a_this, .inr (4, [.ref a_this_levels, .ref a_this_heights, .int heightCount_l82, .int stairs_l42_x])), (a_this_levels, .inl (cyI, 8, .inl levels_l7_x)), (a_this_heights, .inl (cyI, 12, .inl (upd heights_l82 heightCount_l82.toNatClampNeg ((p0_letters y3_l82.toNatClampNeg) - (48 : Int32))))), (a_p0, .inr (2, [.ref a_p0_letters, .int p0_size])), (a_p0_letters, .inl (cyC, 32, .inl p0_letters))] H := hP
              have hD : va_D A [(a_this, .inr (4, [.ref a_this_levels, .ref a_this_heights, .int heightCount_l82, .int stairs_l42_x])), (a_this_levels, .inl (cyI, 8, .inl levels_l7_x)), (a_this_heights, .inl (cyI, 12, .inl (upd heights_l82 heightCount_l82.toNatClampNeg ((p0_letters y3_l82.toNatClampNeg) - (48 : Int32))))), (a_p0, .inr (2, [.ref a_p0_letters, .int p0_size])), (a_p0_letters, .inl (cyC, 32, .inl p0_letters))] := hD
              refine lv_aload_n hx hb dX4_readFrom_117 rfl (lv_at hl 1 rfl) ?_
              refine lv_dup hx hb dX4_readFrom_118 rfl ?_
              refine va_get (D := (dC, dI)) (ci := 4) (v := .int heightCount_l82) (C := RX4) (T := TX4) (N := 4) hx hb hts eX4_readFrom_0 hown hE.1 hP 0 rfl rfl 2 (by decide) (hts _ eX4_readFrom_5) (fun _ h9 => h9) rfl dX4_readFrom_119 ?_
              refine lv_iconst (v := (1 : Int32)) hx hb dX4_readFrom_122 (by decide) ?_
              refine lv_iadd hx hb dX4_readFrom_123 ?_
              refine va_put (D := (dC, dI)) (ci := 4) (v := .int (heightCount_l82 + (1 : Int32))) (ty := .int) (C := RX4) (T := TX4) (N := 4) hx hb hts eX4_readFrom_0 tyX4 tyX4_ok nmX4 hown hE.1 hP hD hS 0 rfl rfl 2 (by decide) (hts _ eX4_readFrom_5) (fun _ h9 => h9) rfl (by decide +kernel) rfl rfl (Nat.le_of_ble_eq_true rfl) dX4_readFrom_124 (fun H locs hP hD hS => ?_)
              have hP : va_P (dC, dI) vwCl [(a_this, .inr (4, [.ref a_this_levels, .ref a_this_heights, .int (heightCount_l82 + (1 : Int32)), .int stairs_l42_x])), (a_this_levels, .inl (cyI, 8, .inl levels_l7_x)), (a_this_heights, .inl (cyI, 12, .inl (upd heights_l82 heightCount_l82.toNatClampNeg ((p0_letters y3_l82.toNatClampNeg) - (48 : Int32))))), (a_p0, .inr (2, [.ref a_p0_letters, .int p0_size])), (a_p0_letters, .inl (cyC, 32, .inl p0_letters))] H := hP
              have hD : va_D A [(a_this, .inr (4, [.ref a_this_levels, .ref a_this_heights, .int (heightCount_l82 + (1 : Int32)), .int stairs_l42_x])), (a_this_levels, .inl (cyI, 8, .inl levels_l7_x)), (a_this_heights, .inl (cyI, 12, .inl (upd heights_l82 heightCount_l82.toNatClampNeg ((p0_letters y3_l82.toNatClampNeg) - (48 : Int32))))), (a_p0, .inr (2, [.ref a_p0_letters, .int p0_size])), (a_p0_letters, .inl (cyC, 32, .inl p0_letters))] := hD
              refine lv_iinc (v := (y3_l82 + 1)) (lv' := [(3, .int (y3_l82 + 1)), (0, .ref a_this), (1, .ref a_p0)]) hx hb dX4_readFrom_127 hl (k := 0) rfl rfl (by decide) rfl (fun ls hl => ?_)
              refine lv_goto (tgt := 82) hx hb dX4_readFrom_130 (by decide) ?_
              exact ih (y3_l82 + 1) (upd heights_l82 heightCount_l82.toNatClampNeg ((p0_letters y3_l82.toNatClampNeg) - (48 : Int32))) (heightCount_l82 + (1 : Int32)) (show 0 ≤ (y3_l82 + 1) by simp only [vp_in_iff, ← Int32.toInt_inj, Int32.le_iff_toInt_le, Int32.lt_iff_toInt_lt, Int32.toInt_add, Int32.toInt_sub, Int32.toInt_mul, Int.bmod, Int32.reduceToInt, Nat.reducePow, Int32.toInt_toInt64, Int64.reduceToInt] at h0 hq_1 hIl82_0 hIl82_1 c_5 c_6 hm_ ⊢ <;> omega) (show 0 ≤ (heightCount_l82 + (1 : Int32)) by simp only [vp_in_iff, ← Int32.toInt_inj, Int32.le_iff_toInt_le, Int32.lt_iff_toInt_lt, Int32.toInt_add, Int32.toInt_sub, Int32.toInt_mul, Int.bmod, Int32.reduceToInt, Nat.reducePow, Int32.toInt_toInt64, Int64.reduceToInt] at h0 hq_1 hIl82_0 hIl82_1 c_5 c_6 hm_ ⊢ <;> omega) (show ((p0_size).toInt - ((y3_l82 + 1)).toInt).toNat < n by simp only [vp_in_iff, ← Int32.toInt_inj, Int32.le_iff_toInt_le, Int32.lt_iff_toInt_lt, Int32.toInt_add, Int32.toInt_sub, Int32.toInt_mul, Int.bmod, Int32.reduceToInt, Nat.reducePow, Int32.toInt_toInt64, Int64.reduceToInt] at h0 hq_1 hIl82_0 hIl82_1 c_5 c_6 hm_ ⊢ <;> omega) _ hT hK_ _ _ hP hD hS ls (lv_sub hl [0, 1, 2] rfl)
      have Xl82 : ∀ (heights_l82_x : Nat → Int32) (heightCount_l82_x : Int32), ∀ (H : Heap) (locs : List Loc), va_P (dC, dI) vwCl [(a_this, .inr (4, [.ref a_this_levels, .ref a_this_heights, .int heightCount_l82_x, .int stairs_l42_x])), (a_this_levels, .inl (cyI, 8, .inl levels_l7_x)), (a_this_heights, .inl (cyI, 12, .inl heights_l82_x)), (a_p0, .inr (2, [.ref a_p0_letters, .int p0_size])), (a_p0_letters, .inl (cyC, 32, .inl p0_letters))] H → va_D A [(a_this, .inr (4, [.ref a_this_levels, .ref a_this_heights, .int heightCount_l82_x, .int stairs_l42_x])), (a_this_levels, .inl (cyI, 8, .inl levels_l7_x)), (a_this_heights, .inl (cyI, 12, .inl heights_l82_x)), (a_p0, .inr (2, [.ref a_p0_letters, .int p0_size])), (a_p0_letters, .inl (cyC, 32, .inl p0_letters))] → va_S A s.heap H locs → ∀ (ls : Array Slot), lv_has ls 4 [] → (fX4_readFrom_x82 levels_l7_x stairs_l42_x heights_l82_x heightCount_l82_x) = T → W p l e (headSpec wsX4_readFrom rmX4_readFrom).room s m ([.ref a_this, .ref a_p0] : List Value).toArray below meth c H locs 0 0 Q (F0 m 133 ls []) := by
        intro heights_l82_x heightCount_l82_x H locs hP hD hS ls hl hT
        rw [fX4_readFrom_x82] at hT
        subst hT
        exact hret (levels_l7_x, heights_l82_x, heightCount_l82_x, stairs_l42_x) _ _ _ _ dX4_readFrom_133 rfl hS (fun t ht ha => ⟨by rw [ht]; exact hP, va_K.moved ha hE.1, hD⟩)
      refine Ll82 33 ((fX2_heightsBehind p0_size p0_letters) + (1 : Int32)) heights (0 : Int32) (show 0 ≤ ((fX2_heightsBehind p0_size p0_letters) + (1 : Int32)) by simp only [vp_in_iff, ← Int32.toInt_inj, Int32.le_iff_toInt_le, Int32.lt_iff_toInt_lt, Int32.toInt_add, Int32.toInt_sub, Int32.toInt_mul, Int.bmod, Int32.reduceToInt, Nat.reducePow, Int32.toInt_toInt64, Int64.reduceToInt] at h0 hq_1 ⊢ <;> omega) (show 0 ≤ (0 : Int32) by simp only [vp_in_iff, ← Int32.toInt_inj, Int32.le_iff_toInt_le, Int32.lt_iff_toInt_lt, Int32.toInt_add, Int32.toInt_sub, Int32.toInt_mul, Int.bmod, Int32.reduceToInt, Nat.reducePow, Int32.toInt_toInt64, Int64.reduceToInt] at h0 hq_1 ⊢ <;> omega) (show ((p0_size).toInt - (((fX2_heightsBehind p0_size p0_letters) + (1 : Int32))).toInt).toNat < 33 by simp only [vp_in_iff, ← Int32.toInt_inj, Int32.le_iff_toInt_le, Int32.lt_iff_toInt_lt, Int32.toInt_add, Int32.toInt_sub, Int32.toInt_mul, Int.bmod, Int32.reduceToInt, Nat.reducePow, Int32.toInt_toInt64, Int64.reduceToInt] at h0 hq_1 ⊢ <;> omega) (fX4_readFrom_l82 p0_size p0_letters 33 ((fX2_heightsBehind p0_size p0_letters) + (1 : Int32)) heights (0 : Int32)) rfl ?_ _ _ hP hD hS ls (lv_sub hl [0, 2, 3] rfl)
      intro H locs hP hD hS ls hl
      exact Xl82 ((fX4_readFrom_l82 p0_size p0_letters 33 ((fX2_heightsBehind p0_size p0_letters) + (1 : Int32)) heights (0 : Int32)).1) ((fX4_readFrom_l82 p0_size p0_letters 33 ((fX2_heightsBehind p0_size p0_letters) + (1 : Int32)) heights (0 : Int32)).2) _ _ hP hD hS ls hl hT
    refine Ll42 33 (9 : Int32) (0 : Int32) (show 0 ≤ (9 : Int32) by simp only [vp_in_iff, ← Int32.toInt_inj, Int32.le_iff_toInt_le, Int32.lt_iff_toInt_lt, Int32.toInt_add, Int32.toInt_sub, Int32.toInt_mul, Int.bmod, Int32.reduceToInt, Nat.reducePow, Int32.toInt_toInt64, Int64.reduceToInt] at h0 hq_1 ⊢ <;> omega) (show (((fX2_heightsBehind p0_size p0_letters)).toInt - ((9 : Int32)).toInt).toNat < 33 by simp only [vp_in_iff, ← Int32.toInt_inj, Int32.le_iff_toInt_le, Int32.lt_iff_toInt_lt, Int32.toInt_add, Int32.toInt_sub, Int32.toInt_mul, Int.bmod, Int32.reduceToInt, Nat.reducePow, Int32.toInt_toInt64, Int64.reduceToInt] at h0 hq_1 ⊢ <;> omega) (fX4_readFrom_l42 p0_size p0_letters 33 (9 : Int32) (0 : Int32)) rfl ?_ _ _ hP hD hS ls (lv_sub hl [0, 1, 2, 3] rfl)
    intro H locs hP hD hS ls hl
    exact Xl42 (fX4_readFrom_l42 p0_size p0_letters 33 (9 : Int32) (0 : Int32)) _ _ hP hD hS ls hl hT
  refine Ll7 9 (0 : Int32) levels (show 0 ≤ (0 : Int32) by simp only [vp_in_iff, ← Int32.toInt_inj, Int32.le_iff_toInt_le, Int32.lt_iff_toInt_lt, Int32.toInt_add, Int32.toInt_sub, Int32.toInt_mul, Int.bmod, Int32.reduceToInt, Nat.reducePow, Int32.toInt_toInt64, Int64.reduceToInt] at h0 hq_1 ⊢ <;> omega) (show (((8 : Int32)).toInt - ((0 : Int32)).toInt).toNat < 9 by simp only [vp_in_iff, ← Int32.toInt_inj, Int32.le_iff_toInt_le, Int32.lt_iff_toInt_lt, Int32.toInt_add, Int32.toInt_sub, Int32.toInt_mul, Int.bmod, Int32.reduceToInt, Nat.reducePow, Int32.toInt_toInt64, Int64.reduceToInt] at h0 hq_1 ⊢ <;> omega) (fX4_readFrom_l7 p0_letters 9 (0 : Int32) levels) rfl ?_ _ _ hP hD hS ls (lv_sub hl [0, 1, 2, 3] rfl)
  intro H locs hP hD hS ls hl
  exact Xl7 (fX4_readFrom_l7 p0_letters 9 (0 : Int32) levels) _ _ hP hD hS ls hl hT
