/-! what every contract of the class is given: its nest links, its two tables of whole numbers, the classes and the arrays' classes -/
def z_fl (j : Nat) : Int32 := match j with | 0 => 1 | 1 => 2 | 2 => 0 | 3 => 0 | _ => 3
def z_eb (j : Nat) : Int32 := match j with | 0 => 1 | 1 => 2 | 2 => 1 | 3 => 0 | _ => 3
def zN (U : State) : Prop :=
  va_Nw (.fieldLinkNest RX4 73 "LowWater" "FLOOD_REACH" "[I" "LowWater") U ∧ va_Nw (.fieldLinkNest RX4 80 "LowWater" "EBB_REACH" "[I" "LowWater") U ∧
  va_Nw (.methodLinkNest RX5 9 yX2_init "LowWater") U ∧ va_Nw (.methodLinkNest RX5 18 yX4_init "LowWater") U ∧ va_Nw (.methodLinkNest RX5 25 yX3_init "LowWater") U ∧ va_Nw (.methodLinkNest RX5 38 yX1_init "LowWater") U ∧ va_Nw (.methodLinkNest RX5 45 yX0_init "LowWater") U ∧
  va_Nw (.methodLinkNest RX0 80 yX5_isCell "LowWater") U ∧ va_Nw (.methodLinkNest RX2 44 yX5_isCell "LowWater") U ∧ va_Nw (.methodLinkNest RX3 69 yX5_isCell "LowWater") U ∧ va_Nw (.methodLinkNest RX4 38 yX5_isCell "LowWater") U ∧ va_Nw (.methodLinkNest RX4 66 yX5_isKind "LowWater") U
theorem zN.same {u U : State} (h : zN u) (e : u.vm = U.vm) : zN U := by
  obtain ⟨h1, h2, h3, h4, h5, h6, h7, h8, h9, h10, h11, h12⟩ := h
  exact ⟨h1.same rfl e, h2.same rfl e, h3.same rfl e, h4.same rfl e, h5.same rfl e, h6.same rfl e, h7.same rfl e, h8.same rfl e, h9.same rfl e, h10.same rfl e, h11.same rfl e, h12.same rfl e⟩
theorem zN.warm {s U : State} (h : zN s) (w : s.WarmedH U.vm) : zN U := by
  obtain ⟨h1, h2, h3, h4, h5, h6, h7, h8, h9, h10, h11, h12⟩ := h
  exact ⟨va_Nw.warmF w h1, va_Nw.warmF w h2, va_Nw.warmM w h3, va_Nw.warmM w h4, va_Nw.warmM w h5, va_Nw.warmM w h6, va_Nw.warmM w h7, va_Nw.warmM w h8, va_Nw.warmM w h9, va_Nw.warmM w h10, va_Nw.warmM w h11, va_Nw.warmM w h12⟩
theorem zN_F {U : State} (h : zN U) : va_Nw (.fieldLinkNest RX4 73 "LowWater" "FLOOD_REACH" "[I" "LowWater") U := h.1
theorem zN_E {U : State} (h : zN U) : va_Nw (.fieldLinkNest RX4 80 "LowWater" "EBB_REACH" "[I" "LowWater") U := h.2.1
theorem zN_X5_9 {U : State} (h : zN U) : va_Nw (.methodLinkNest RX5 9 yX2_init "LowWater") U := h.2.2.1
theorem zN_X5_18 {U : State} (h : zN U) : va_Nw (.methodLinkNest RX5 18 yX4_init "LowWater") U := h.2.2.2.1
theorem zN_X5_25 {U : State} (h : zN U) : va_Nw (.methodLinkNest RX5 25 yX3_init "LowWater") U := h.2.2.2.2.1
theorem zN_X5_38 {U : State} (h : zN U) : va_Nw (.methodLinkNest RX5 38 yX1_init "LowWater") U := h.2.2.2.2.2.1
theorem zN_X5_45 {U : State} (h : zN U) : va_Nw (.methodLinkNest RX5 45 yX0_init "LowWater") U := h.2.2.2.2.2.2.1
theorem zN_X0_80 {U : State} (h : zN U) : va_Nw (.methodLinkNest RX0 80 yX5_isCell "LowWater") U := h.2.2.2.2.2.2.2.1
theorem zN_X2_44 {U : State} (h : zN U) : va_Nw (.methodLinkNest RX2 44 yX5_isCell "LowWater") U := h.2.2.2.2.2.2.2.2.1
theorem zN_X3_69 {U : State} (h : zN U) : va_Nw (.methodLinkNest RX3 69 yX5_isCell "LowWater") U := h.2.2.2.2.2.2.2.2.2.1
theorem zN_X4_38 {U : State} (h : zN U) : va_Nw (.methodLinkNest RX4 38 yX5_isCell "LowWater") U := h.2.2.2.2.2.2.2.2.2.2.1
theorem zN_X4_66 {U : State} (h : zN U) : va_Nw (.methodLinkNest RX4 66 yX5_isKind "LowWater") U := h.2.2.2.2.2.2.2.2.2.2.2
abbrev zY (cyI cyC cyZ : ClassId) : List (ClassId × FieldType) := [(cyI, .int), (cyC, .char), (cyZ, .boolean)]
def zE (A : Nat → Prop) (dC : Nat → ClassId) (dI : Nat → Nat → Nat) (cyI cyC cyZ : ClassId) (tF tE : Nat) (U : State) (H : Heap) : Prop :=
  va_K (dC, dI) vwCl (zY cyI cyC cyZ) U ∧ zN U ∧ va_Z "LowWater" "FLOOD_REACH" "[I" (.ref tF) A U H ∧ va_T .int tF 5 (fun j => .int (z_fl j)) A U H ∧ va_Z "LowWater" "EBB_REACH" "[I" (.ref tE) A U H ∧ va_T .int tE 5 (fun j => .int (z_eb j)) A U H
section ZE
variable {A B : Nat → Prop} {dC : Nat → ClassId} {dI : Nat → Nat → Nat} {cyI cyC cyZ : ClassId} {tF tE : Nat} {U U' s : State} {H : Heap} {locs : List Loc}
theorem zE_N (h : zE A dC dI cyI cyC cyZ tF tE U H) : zN U := h.2.1
theorem zE_ZF (h : zE A dC dI cyI cyC cyZ tF tE U H) : va_Z "LowWater" "FLOOD_REACH" "[I" (.ref tF) A U H := h.2.2.1
theorem zE_TF (h : zE A dC dI cyI cyC cyZ tF tE U H) : va_T .int tF 5 (fun j => .int (z_fl j)) A U H := h.2.2.2.1
theorem zE_ZE (h : zE A dC dI cyI cyC cyZ tF tE U H) : va_Z "LowWater" "EBB_REACH" "[I" (.ref tE) A U H := h.2.2.2.2.1
theorem zE_TE (h : zE A dC dI cyI cyC cyZ tF tE U H) : va_T .int tE 5 (fun j => .int (z_eb j)) A U H := h.2.2.2.2.2
theorem zE.same (h : zE A dC dI cyI cyC cyZ tF tE U H) (e : U.vm = U'.vm) : zE A dC dI cyI cyC cyZ tF tE U' H := by
  have a : U.vm.Alike U'.vm := e ▸ Vm.Alike.refl U.vm
  exact ⟨va_K.moved a h.1, h.2.1.same e, va_Z.moved a h.2.2.1, va_T.moved a h.2.2.2.1, va_Z.moved a h.2.2.2.2.1, va_T.moved a h.2.2.2.2.2⟩
theorem zE.to (h : zE A dC dI cyI cyC cyZ tF tE s s.heap) (hS : va_S A s.heap H locs) (hAB : ∀ q, B q → A q) (hU : U.heap = H) (w : s.WarmedH U.vm) : zE B dC dI cyI cyC cyZ tF tE U U.heap := by
  have a := w.alike
  rw [hU]
  exact ⟨va_K.moved a h.1, h.2.1.warm w, va_Z.moved a ((h.2.2.1.kept hS.2.1).narrow hAB), va_T.moved a ((h.2.2.2.1.kept hS.2.1).narrow hAB), va_Z.moved a ((h.2.2.2.2.1.kept hS.2.1).narrow hAB), va_T.moved a ((h.2.2.2.2.2.kept hS.2.1).narrow hAB)⟩
theorem z_bp {av : List Value} {ws : va_W} : FrameBlind (va_Pc av (fun U => va_P (dC, dI) vwCl ws U.heap ∧ zE A dC dI cyI cyC cyZ tF tE U U.heap)) := fun a U g mk q => ⟨q.1, q.2.1, zE.same (U := U) (U' := U.calling g mk a) (H := U.heap) q.2.2 rfl⟩
theorem z_bw {av : List Value} {ws : va_W} {sz : Nat} {X : Prop} : FrameBlind (va_Pc av (fun U => U.heap.size = sz ∧ va_P (dC, dI) vwCl ws U.heap ∧ X ∧ zE A dC dI cyI cyC cyZ tF tE U U.heap)) := fun a U g mk q => ⟨q.1, q.2.1, q.2.2.1, q.2.2.2.1, zE.same (U := U) (U' := U.calling g mk a) (H := U.heap) q.2.2.2.2 rfl⟩
end ZE
/-! numbers as the machine makes them -/
def jrem (x y : Int32) : Int32 := x - x / y * y
def jlrem (x y : Int64) : Int64 := x - x / y * y
def jshl (x y : Int32) : Int32 := x <<< (y &&& 31)
def jshr (x y : Int32) : Int32 := x >>> (y &&& 31)
def jushr (x y : Int32) : Int32 := (x.toUInt32 >>> (y.toUInt32 &&& Int32.toUInt32 31)).toInt32
def jlshl (x : Int64) (y : Int32) : Int64 := x <<< (y.toInt64 &&& 63)
def jlshr (x : Int64) (y : Int32) : Int64 := x >>> (y.toInt64 &&& 63)
def jlushr (x : Int64) (y : Int32) : Int64 := (x.toUInt64 >>> (y.toInt64.toUInt64 &&& Int64.toUInt64 63)).toInt64
def ji2c (x : Int32) : Int32 := (x.toUInt32 % 65536).toInt32
def jmax (x y : Int32) : Int32 := if x < y then y else x
def jmin (x y : Int32) : Int32 := if y < x then y else x
def jabs (x : Int32) : Int32 := if 0 ≤ x then x else 0 - x
theorem z_neI {x v : Int32} {k : Int} (h : ¬ x = v) (hk : v.toInt = k) : x.toInt ≠ k := fun q => h (Int32.toInt_inj.mp (by rw [hk]; exact q))
theorem z_nz {v : Int32} (h : v = 0 ∨ v = 1) : narrow .boolean (.int v) = .int v := by
  rcases h with rfl | rfl <;> rfl
/-! the head of a method that writes nothing -/
theorem z_pi {l : Launch} {y : MethodName} {ws ws' : List Cond} {rm : Room} {cc : ByteArray} {maxL : Nat} {av : List Value} {B : State → Prop} {post : Int32 → Prop}
    (hy : plainName y.cls = true) (hw : ws = Cond.code y cc maxL (some .int) :: ws') (hlen : (lg_sl av).length ≤ maxL)
    (body : ∀ (p : Program) (e : Env) (s : State) (m : MethodId) (below : List Frame) (meth : Method) (c : Code) (Q : State → Prop), p.tables.exec = Jvm.exec → c.code = cc → c.maxLocals = maxL → s.vm.findClass y.cls = some m.cls → (∀ w ∈ ws, w.before av.toArray s = true) → B s →
      (∀ (v : Int32) (pc : Nat) (ls : Array Slot), decode cc pc = .ok (.ireturn, 1) → post v → W p l e (headSpec ws rm).room s m av.toArray below meth c s.heap [] 0 0 Q (F0 m pc ls [.int v])) →
      ∀ ls : Array Slot, lv_has ls maxL (lv_args 0 av) → W p l e (headSpec ws rm).room s m av.toArray below meth c s.heap [] 0 0 Q (F0 m 0 ls [])) :
    Met l y ws rm (va_Pc av B) (vp_Si post) 0 0 (fun _ => False) := by
  refine Met.ofW (cc := cc) (maxL := maxL) (ret := some .int) hy hw ?_
  intro p e s m args below meth c s₁ B0 hml hv
  obtain ⟨rfl, hB⟩ := hv
  have hx := B0.exec
  have hb := B0.bytes
  have hr := B0.returns
  have hts := atoms_spec (ws := ws) B0.pre
  have hown : s.vm.findClass y.cls = some m.cls := findClass_of_methodNamed B0.named
  have hlocks := B0.notSynchronized
  have hl := lv_entry av (n := maxL) hlen
  rw [lg_entry_eq]
  generalize (lg_sl av ++ List.replicate (maxL - (lg_sl av).length) Slot.unset).toArray = ls at hl ⊢
  exact body p e s m below meth c _ hx hb hml hown hts hB (fun v pc ls hd hp => W.iret (v := v) hx hb hr (fun t ht hW => ⟨v, rfl, hp, ht⟩) (fun q h => absurd h List.not_mem_nil) hd) ls hl
theorem z_piF {l : Launch} {y : MethodName} {ws ws' : List Cond} {rm : Room} {cc : ByteArray} {maxL : Nat} {av : List Value} {B : State → Prop} {post : Int32 → Prop}
    (hy : plainFor y = true) (hw : ws = Cond.code y cc maxL (some .int) :: ws') (hlen : (lg_sl av).length ≤ maxL)
    (body : ∀ (p : Program) (e : Env) (s : State) (m : MethodId) (below : List Frame) (meth : Method) (c : Code) (Q : State → Prop), p.tables.exec = Jvm.exec → c.code = cc → c.maxLocals = maxL → s.vm.findClass y.cls = some m.cls → (∀ w ∈ ws, w.before av.toArray s = true) → B s →
      (∀ (v : Int32) (pc : Nat) (ls : Array Slot), decode cc pc = .ok (.ireturn, 1) → post v → W p l e (headSpec ws rm).room s m av.toArray below meth c s.heap [] 0 0 Q (F0 m pc ls [.int v])) →
      ∀ ls : Array Slot, lv_has ls maxL (lv_args 0 av) → W p l e (headSpec ws rm).room s m av.toArray below meth c s.heap [] 0 0 Q (F0 m 0 ls [])) :
    Met l y ws rm (va_Pc av B) (vp_Si post) 0 0 (fun _ => False) := by
  refine va_MetF (cc := cc) (maxL := maxL) (ret := some .int) hy hw ?_
  intro p e s m args below meth c s₁ B0 hml hv
  obtain ⟨rfl, hB⟩ := hv
  have hx := B0.exec
  have hb := B0.bytes
  have hr := B0.returns
  have hts := atoms_spec (ws := ws) B0.pre
  have hown : s.vm.findClass y.cls = some m.cls := findClass_of_methodNamed B0.named
  have hlocks := B0.notSynchronized
  have hl := lv_entry av (n := maxL) hlen
  rw [lg_entry_eq]
  generalize (lg_sl av ++ List.replicate (maxL - (lg_sl av).length) Slot.unset).toArray = ls at hl ⊢
  exact body p e s m below meth c _ hx hb hml hown hts hB (fun v pc ls hd hp => W.iret (v := v) hx hb hr (fun t ht hW => ⟨v, rfl, hp, ht⟩) (fun q h => absurd h List.not_mem_nil) hd) ls hl
theorem z_pz {l : Launch} {y : MethodName} {ws ws' : List Cond} {rm : Room} {cc : ByteArray} {maxL : Nat} {av : List Value} {B : State → Prop} {post : Int32 → Prop}
    (hy : plainName y.cls = true) (hw : ws = Cond.code y cc maxL (some .boolean) :: ws') (hlen : (lg_sl av).length ≤ maxL)
    (body : ∀ (p : Program) (e : Env) (s : State) (m : MethodId) (below : List Frame) (meth : Method) (c : Code) (Q : State → Prop), p.tables.exec = Jvm.exec → c.code = cc → c.maxLocals = maxL → s.vm.findClass y.cls = some m.cls → (∀ w ∈ ws, w.before av.toArray s = true) → B s →
      (∀ (v : Int32) (pc : Nat) (ls : Array Slot), (v = 0 ∨ v = 1) → decode cc pc = .ok (.ireturn, 1) → post v → W p l e (headSpec ws rm).room s m av.toArray below meth c s.heap [] 0 0 Q (F0 m pc ls [.int v])) →
      ∀ ls : Array Slot, lv_has ls maxL (lv_args 0 av) → W p l e (headSpec ws rm).room s m av.toArray below meth c s.heap [] 0 0 Q (F0 m 0 ls [])) :
    Met l y ws rm (va_Pc av B) (vp_Si (fun r => post r ∧ (r = 0 ∨ r = 1))) 0 0 (fun _ => False) := by
  refine Met.ofW (cc := cc) (maxL := maxL) (ret := some .boolean) hy hw ?_
  intro p e s m args below meth c s₁ B0 hml hv
  obtain ⟨rfl, hB⟩ := hv
  have hx := B0.exec
  have hb := B0.bytes
  have hr := B0.returns
  have hts := atoms_spec (ws := ws) B0.pre
  have hown : s.vm.findClass y.cls = some m.cls := findClass_of_methodNamed B0.named
  have hlocks := B0.notSynchronized
  have hl := lv_entry av (n := maxL) hlen
  rw [lg_entry_eq]
  generalize (lg_sl av ++ List.replicate (maxL - (lg_sl av).length) Slot.unset).toArray = ls at hl ⊢
  exact body p e s m below meth c _ hx hb hml hown hts hB (fun v pc ls hz hd hp => W.zret (v := v) hx hb hr (z_nz hz) (fun t ht hW => ⟨v, rfl, ⟨hp, hz⟩, ht⟩) (fun q h => absurd h List.not_mem_nil) hd) ls hl
theorem z_pl {l : Launch} {y : MethodName} {ws ws' : List Cond} {rm : Room} {cc : ByteArray} {maxL : Nat} {av : List Value} {B : State → Prop} {post : Int64 → Prop}
    (hy : plainName y.cls = true) (hw : ws = Cond.code y cc maxL (some .long) :: ws') (hlen : (lg_sl av).length ≤ maxL)
    (body : ∀ (p : Program) (e : Env) (s : State) (m : MethodId) (below : List Frame) (meth : Method) (c : Code) (Q : State → Prop), p.tables.exec = Jvm.exec → c.code = cc → c.maxLocals = maxL → s.vm.findClass y.cls = some m.cls → (∀ w ∈ ws, w.before av.toArray s = true) → B s →
      (∀ (v : Int64) (pc : Nat) (ls : Array Slot), decode cc pc = .ok (.lreturn, 1) → post v → W p l e (headSpec ws rm).room s m av.toArray below meth c s.heap [] 0 0 Q (F0 m pc ls [.long v])) →
      ∀ ls : Array Slot, lv_has ls maxL (lv_args 0 av) → W p l e (headSpec ws rm).room s m av.toArray below meth c s.heap [] 0 0 Q (F0 m 0 ls [])) :
    Met l y ws rm (va_Pc av B) (vp_Sl post) 0 0 (fun _ => False) := by
  refine Met.ofW (cc := cc) (maxL := maxL) (ret := some .long) hy hw ?_
  intro p e s m args below meth c s₁ B0 hml hv
  obtain ⟨rfl, hB⟩ := hv
  have hx := B0.exec
  have hb := B0.bytes
  have hr := B0.returns
  have hts := atoms_spec (ws := ws) B0.pre
  have hown : s.vm.findClass y.cls = some m.cls := findClass_of_methodNamed B0.named
  have hlocks := B0.notSynchronized
  have hl := lv_entry av (n := maxL) hlen
  rw [lg_entry_eq]
  generalize (lg_sl av ++ List.replicate (maxL - (lg_sl av).length) Slot.unset).toArray = ls at hl ⊢
  exact body p e s m below meth c _ hx hb hml hown hts hB (fun v pc ls hd hp => W.lret (v := v) hx hb hr (fun t ht hW => ⟨v, rfl, hp, ht⟩) (fun q h => absurd h List.not_mem_nil) hd) ls hl
/-! the head of a method that writes: its world is ws0 -/
theorem z_wi {l : Launch} {y : MethodName} {ws ws' : List Cond} {rm : Room} {cc : ByteArray} {maxL : Nat} {av : List Value} {D : va_G} {ws0 : va_W} {sz : Nat} {B : (Nat → Prop) → State → Prop} {S : Type} {post : Int32 → S → Prop} {Bq : (Nat → Prop) → S → State → Prop} {mc ms : Nat}
    (hy : plainName y.cls = true) (hw : ws = Cond.code y cc maxL (some .int) :: ws') (hlen : (lg_sl av).length ≤ maxL)
    (body : ∀ (p : Program) (e : Env) (s : State) (m : MethodId) (below : List Frame) (meth : Method) (c : Code) (Q : State → Prop) (A : Nat → Prop), p.tables.exec = Jvm.exec → c.code = cc → c.maxLocals = maxL → s.vm.findClass y.cls = some m.cls → meth.name = y.name → (∀ w ∈ ws, w.before av.toArray s = true) → va_P D vwCl ws0 s.heap → va_D A ws0 → B A s → (∀ q : Nat, s.heap.size ≤ q → A q) →
      (∀ (v : Int32) (u : S) (pc : Nat) (ls : Array Slot) (H : Heap) (locs : List Loc), decode cc pc = .ok (.ireturn, 1) → post v u → va_S A s.heap H locs → (∀ t : State, t.heap = H → s.vm.Alike t.vm → Bq A u t) → W p l e (headSpec ws rm).room s m av.toArray below meth c H locs mc ms Q (F0 m pc ls [.int v])) →
      ∀ ls : Array Slot, lv_has ls maxL (lv_args 0 av) → W p l e (headSpec ws rm).room s m av.toArray below meth c s.heap [] 0 0 Q (F0 m 0 ls [])) :
    Met l y ws rm (va_Pc av (fun U => U.heap.size = sz ∧ va_P D vwCl ws0 U.heap ∧ va_D (fun _ => True) ws0 ∧ B (va_A ws0 sz) U)) (va_Qi post (Bq (va_A ws0 sz)) (va_A ws0 sz)) mc ms (va_A ws0 sz) := by
  refine Met.ofW (cc := cc) (maxL := maxL) (ret := (some .int)) hy hw ?_
  intro p e s m args below meth c s₁ B0 hml hv
  obtain ⟨rfl, hsz, hP, hD0, hB⟩ := hv
  have hx := B0.exec
  have hb := B0.bytes
  have hr := B0.returns
  have hts := atoms_spec (ws := ws) B0.pre
  have hown : s.vm.findClass y.cls = some m.cls := findClass_of_methodNamed B0.named
  have hlocks := B0.notSynchronized
  have hin : meth.name = y.name := (name_of_methodNamed B0.named B0.method).1
  subst hsz
  have hD := hD0.self (sz := s.heap.size)
  have hA : ∀ q : Nat, s.heap.size ≤ q → va_A ws0 s.heap.size q := fun q h => Or.inr h
  have hl := lv_entry av (n := maxL) hlen
  rw [lg_entry_eq]
  generalize (lg_sl av ++ List.replicate (maxL - (lg_sl av).length) Slot.unset).toArray = ls at hl ⊢
  exact body p e s m below meth c _ _ hx hb hml hown hin hts hP hD hB hA (fun v u pc ls H locs hd hp hS hq => W.iret (v := v) hx hb hr (fun t ht hW => ⟨⟨v, u, rfl, hp, hq t ht hW.alike⟩, hS.F ht⟩) hS.2.2 hd) ls hl
theorem z_wl {l : Launch} {y : MethodName} {ws ws' : List Cond} {rm : Room} {cc : ByteArray} {maxL : Nat} {av : List Value} {D : va_G} {ws0 : va_W} {sz : Nat} {B : (Nat → Prop) → State → Prop} {S : Type} {post : Int64 → S → Prop} {Bq : (Nat → Prop) → S → State → Prop} {mc ms : Nat}
    (hy : plainName y.cls = true) (hw : ws = Cond.code y cc maxL (some .long) :: ws') (hlen : (lg_sl av).length ≤ maxL)
    (body : ∀ (p : Program) (e : Env) (s : State) (m : MethodId) (below : List Frame) (meth : Method) (c : Code) (Q : State → Prop) (A : Nat → Prop), p.tables.exec = Jvm.exec → c.code = cc → c.maxLocals = maxL → s.vm.findClass y.cls = some m.cls → meth.name = y.name → (∀ w ∈ ws, w.before av.toArray s = true) → va_P D vwCl ws0 s.heap → va_D A ws0 → B A s → (∀ q : Nat, s.heap.size ≤ q → A q) →
      (∀ (v : Int64) (u : S) (pc : Nat) (ls : Array Slot) (H : Heap) (locs : List Loc), decode cc pc = .ok (.lreturn, 1) → post v u → va_S A s.heap H locs → (∀ t : State, t.heap = H → s.vm.Alike t.vm → Bq A u t) → W p l e (headSpec ws rm).room s m av.toArray below meth c H locs mc ms Q (F0 m pc ls [.long v])) →
      ∀ ls : Array Slot, lv_has ls maxL (lv_args 0 av) → W p l e (headSpec ws rm).room s m av.toArray below meth c s.heap [] 0 0 Q (F0 m 0 ls [])) :
    Met l y ws rm (va_Pc av (fun U => U.heap.size = sz ∧ va_P D vwCl ws0 U.heap ∧ va_D (fun _ => True) ws0 ∧ B (va_A ws0 sz) U)) (va_Ql post (Bq (va_A ws0 sz)) (va_A ws0 sz)) mc ms (va_A ws0 sz) := by
  refine Met.ofW (cc := cc) (maxL := maxL) (ret := (some .long)) hy hw ?_
  intro p e s m args below meth c s₁ B0 hml hv
  obtain ⟨rfl, hsz, hP, hD0, hB⟩ := hv
  have hx := B0.exec
  have hb := B0.bytes
  have hr := B0.returns
  have hts := atoms_spec (ws := ws) B0.pre
  have hown : s.vm.findClass y.cls = some m.cls := findClass_of_methodNamed B0.named
  have hlocks := B0.notSynchronized
  have hin : meth.name = y.name := (name_of_methodNamed B0.named B0.method).1
  subst hsz
  have hD := hD0.self (sz := s.heap.size)
  have hA : ∀ q : Nat, s.heap.size ≤ q → va_A ws0 s.heap.size q := fun q h => Or.inr h
  have hl := lv_entry av (n := maxL) hlen
  rw [lg_entry_eq]
  generalize (lg_sl av ++ List.replicate (maxL - (lg_sl av).length) Slot.unset).toArray = ls at hl ⊢
  exact body p e s m below meth c _ _ hx hb hml hown hin hts hP hD hB hA (fun v u pc ls H locs hd hp hS hq => W.lret (v := v) hx hb hr (fun t ht hW => ⟨⟨v, u, rfl, hp, hq t ht hW.alike⟩, hS.F ht⟩) hS.2.2 hd) ls hl
theorem z_wz {l : Launch} {y : MethodName} {ws ws' : List Cond} {rm : Room} {cc : ByteArray} {maxL : Nat} {av : List Value} {D : va_G} {ws0 : va_W} {sz : Nat} {B : (Nat → Prop) → State → Prop} {S : Type} {post : Int32 → S → Prop} {Bq : (Nat → Prop) → S → State → Prop} {mc ms : Nat}
    (hy : plainName y.cls = true) (hw : ws = Cond.code y cc maxL (some .boolean) :: ws') (hlen : (lg_sl av).length ≤ maxL)
    (body : ∀ (p : Program) (e : Env) (s : State) (m : MethodId) (below : List Frame) (meth : Method) (c : Code) (Q : State → Prop) (A : Nat → Prop), p.tables.exec = Jvm.exec → c.code = cc → c.maxLocals = maxL → s.vm.findClass y.cls = some m.cls → meth.name = y.name → (∀ w ∈ ws, w.before av.toArray s = true) → va_P D vwCl ws0 s.heap → va_D A ws0 → B A s → (∀ q : Nat, s.heap.size ≤ q → A q) →
      (∀ (v : Int32) (u : S) (pc : Nat) (ls : Array Slot) (H : Heap) (locs : List Loc), (v = 0 ∨ v = 1) → decode cc pc = .ok (.ireturn, 1) → post v u → va_S A s.heap H locs → (∀ t : State, t.heap = H → s.vm.Alike t.vm → Bq A u t) → W p l e (headSpec ws rm).room s m av.toArray below meth c H locs mc ms Q (F0 m pc ls [.int v])) →
      ∀ ls : Array Slot, lv_has ls maxL (lv_args 0 av) → W p l e (headSpec ws rm).room s m av.toArray below meth c s.heap [] 0 0 Q (F0 m 0 ls [])) :
    Met l y ws rm (va_Pc av (fun U => U.heap.size = sz ∧ va_P D vwCl ws0 U.heap ∧ va_D (fun _ => True) ws0 ∧ B (va_A ws0 sz) U)) (va_Qi (fun r u => post r u ∧ (r = 0 ∨ r = 1)) (Bq (va_A ws0 sz)) (va_A ws0 sz)) mc ms (va_A ws0 sz) := by
  refine Met.ofW (cc := cc) (maxL := maxL) (ret := (some .boolean)) hy hw ?_
  intro p e s m args below meth c s₁ B0 hml hv
  obtain ⟨rfl, hsz, hP, hD0, hB⟩ := hv
  have hx := B0.exec
  have hb := B0.bytes
  have hr := B0.returns
  have hts := atoms_spec (ws := ws) B0.pre
  have hown : s.vm.findClass y.cls = some m.cls := findClass_of_methodNamed B0.named
  have hlocks := B0.notSynchronized
  have hin : meth.name = y.name := (name_of_methodNamed B0.named B0.method).1
  subst hsz
  have hD := hD0.self (sz := s.heap.size)
  have hA : ∀ q : Nat, s.heap.size ≤ q → va_A ws0 s.heap.size q := fun q h => Or.inr h
  have hl := lv_entry av (n := maxL) hlen
  rw [lg_entry_eq]
  generalize (lg_sl av ++ List.replicate (maxL - (lg_sl av).length) Slot.unset).toArray = ls at hl ⊢
  exact body p e s m below meth c _ _ hx hb hml hown hin hts hP hD hB hA (fun v u pc ls H locs hz hd hp hS hq => W.zret (v := v) hx hb hr (z_nz hz) (fun t ht hW => ⟨⟨v, u, rfl, ⟨hp, hz⟩, hq t ht hW.alike⟩, hS.F ht⟩) hS.2.2 hd) ls hl
theorem z_wv {l : Launch} {y : MethodName} {ws ws' : List Cond} {rm : Room} {cc : ByteArray} {maxL : Nat} {av : List Value} {D : va_G} {ws0 : va_W} {sz : Nat} {B : (Nat → Prop) → State → Prop} {S : Type} {post : S → Prop} {Bq : (Nat → Prop) → S → State → Prop} {mc ms : Nat}
    (hy : plainName y.cls = true) (hw : ws = Cond.code y cc maxL none :: ws') (hlen : (lg_sl av).length ≤ maxL)
    (body : ∀ (p : Program) (e : Env) (s : State) (m : MethodId) (below : List Frame) (meth : Method) (c : Code) (Q : State → Prop) (A : Nat → Prop), p.tables.exec = Jvm.exec → c.code = cc → c.maxLocals = maxL → s.vm.findClass y.cls = some m.cls → meth.name = y.name → (∀ w ∈ ws, w.before av.toArray s = true) → va_P D vwCl ws0 s.heap → va_D A ws0 → B A s → (∀ q : Nat, s.heap.size ≤ q → A q) →
      (∀ (u : S) (pc : Nat) (ls : Array Slot) (H : Heap) (locs : List Loc), decode cc pc = .ok (.return_, 1) → post u → va_S A s.heap H locs → (∀ t : State, t.heap = H → s.vm.Alike t.vm → Bq A u t) → W p l e (headSpec ws rm).room s m av.toArray below meth c H locs mc ms Q (F0 m pc ls [])) →
      ∀ ls : Array Slot, lv_has ls maxL (lv_args 0 av) → W p l e (headSpec ws rm).room s m av.toArray below meth c s.heap [] 0 0 Q (F0 m 0 ls [])) :
    Met l y ws rm (va_Pc av (fun U => U.heap.size = sz ∧ va_P D vwCl ws0 U.heap ∧ va_D (fun _ => True) ws0 ∧ B (va_A ws0 sz) U)) (va_Qv post (Bq (va_A ws0 sz)) (va_A ws0 sz)) mc ms (va_A ws0 sz) := by
  refine Met.ofW (cc := cc) (maxL := maxL) (ret := none) hy hw ?_
  intro p e s m args below meth c s₁ B0 hml hv
  obtain ⟨rfl, hsz, hP, hD0, hB⟩ := hv
  have hx := B0.exec
  have hb := B0.bytes
  have hr := B0.returns
  have hts := atoms_spec (ws := ws) B0.pre
  have hown : s.vm.findClass y.cls = some m.cls := findClass_of_methodNamed B0.named
  have hlocks := B0.notSynchronized
  have hin : meth.name = y.name := (name_of_methodNamed B0.named B0.method).1
  subst hsz
  have hD := hD0.self (sz := s.heap.size)
  have hA : ∀ q : Nat, s.heap.size ≤ q → va_A ws0 s.heap.size q := fun q h => Or.inr h
  have hl := lv_entry av (n := maxL) hlen
  rw [lg_entry_eq]
  generalize (lg_sl av ++ List.replicate (maxL - (lg_sl av).length) Slot.unset).toArray = ls at hl ⊢
  exact body p e s m below meth c _ _ hx hb hml hown hin hts hP hD hB hA (fun u pc ls H locs hd hp hS hq => W.vret hx hb hr (fun t ht hW => ⟨⟨u, rfl, hp, hq t ht hW.alike⟩, hS.F ht⟩) hS.2.2 hd) ls hl
theorem jrem_toInt (x y : Int32) (hy : 0 < y.toInt) : (jrem x y).toInt = x.toInt.tmod y.toInt := by
  have h1 : (x / y).toInt = x.toInt.tdiv y.toInt := Int32.toInt_div_of_ne_right x y (by intro h; rw [h] at hy; revert hy; decide)
  have h2 : x.toInt - x.toInt.tdiv y.toInt * y.toInt = x.toInt.tmod y.toInt := by
    rw [Int.tmod_def, Int.mul_comm]
  have h3 : (x.toInt.tmod y.toInt).bmod (2 ^ 32) = x.toInt.tmod y.toInt := by
    have a1 := Int.lt_tmod_of_pos x.toInt hy
    have a2 := Int.tmod_lt_of_pos x.toInt hy
    have a3 := Int32.toInt_lt y
    simp only [Int.bmod, Nat.reducePow]
    omega
  unfold jrem
  rw [Int32.toInt_sub, Int32.toInt_mul, h1, Int.sub_bmod_bmod, h2, h3]
theorem z_fl_le (j : Nat) : z_fl j ≤ 3 := by
  unfold z_fl; split <;> decide
theorem z_eb_le (j : Nat) : z_eb j ≤ 3 := by
  unfold z_eb; split <;> decide
theorem z_tmod_lt (a b : Int) (h : 0 < b) : -b < a.tmod b ∧ a.tmod b < b := ⟨Int.lt_tmod_of_pos a h, Int.tmod_lt_of_pos a h⟩
theorem z_i2lne {x : Int32} (h : 0 < x) : ¬ x.toInt64 = 0 := by
  intro q
  have h2 : x.toInt64.toInt = 0 := by rw [q]; rfl
  rw [Int32.toInt_toInt64] at h2
  rw [Int32.lt_iff_toInt_lt, h2] at h
  exact absurd h (by decide)
theorem z_last (x : Int32) : 0 ≤ (jmax 0 (jmin x 7)).toInt ∧ (jmax 0 (jmin x 7)).toInt ≤ 7 := by
  unfold jmax jmin
  split <;> split <;> simp only [Int32.le_iff_toInt_le, Int32.lt_iff_toInt_lt, Int32.reduceToInt] at * <;> omega
theorem z_last7 (x : Int32) : jmax 0 (jmin x 7) ≤ 7 := by
  rw [Int32.le_iff_toInt_le]; exact (z_last x).2
/-! the reference's rows of numbers: places are at most 7 -/
def RW (r : Nat → Int32) : Prop := ∀ j : Nat, j < 8 → (r (4 * j + 1)).toInt ≤ 7
def WB (w : Nat → Int32) (n : Int32) : Prop := ∀ j : Nat, (j : Int) < n.toInt → (w j).toInt ≤ 7
theorem z_clamp {x : Int32} (h : 0 ≤ x) : (x.toNatClampNeg : Int) = x.toInt := by
  rw [Int32.le_iff_toInt_le] at h
  have e : x.toNatClampNeg = x.toInt.toNat := rfl
  rw [e]
  exact Int.toNat_of_nonneg h
theorem z_clampN {x : Int32} (h : 0 ≤ x.toInt) : (x.toNatClampNeg : Int) = x.toInt := by
  have e : x.toNatClampNeg = x.toInt.toNat := rfl
  rw [e]
  exact Int.toNat_of_nonneg h
theorem z_RWat {r : Nat → Int32} {t : Int32} (h : RW r) (h0 : 0 ≤ t) (h1 : t < 8) : (r (4 * t + 1).toNatClampNeg).toInt ≤ 7 := by
  have h1' : t.toInt < 8 := by rw [Int32.lt_iff_toInt_lt] at h1; exact h1
  have h0' : 0 ≤ t.toInt := by rw [Int32.le_iff_toInt_le] at h0; exact h0
  have e : (4 * t + 1).toInt = 4 * t.toInt + 1 := by
    simp only [Int32.toInt_add, Int32.toInt_mul, Int.bmod, Int32.reduceToInt, Nat.reducePow]; omega
  have c := z_clampN (x := 4 * t + 1) (by omega)
  have c2 := z_clampN (x := t) h0'
  have q : (4 * t + 1).toNatClampNeg = 4 * t.toNatClampNeg + 1 := by omega
  rw [q]
  exact h _ (by omega)
theorem z_RWupd {r : Nat → Int32} {k : Nat} {v : Int32} (h : RW r) (hv : v.toInt ≤ 7) : RW (upd r k v) := by
  intro j hj
  unfold upd
  split
  · exact hv
  · exact h j hj
theorem z_WBat {w : Nat → Int32} {n i : Int32} (h : WB w n) (h0 : 0 ≤ i) (h1 : i < n) : (w i.toNatClampNeg).toInt ≤ 7 := by
  have c := z_clamp h0
  rw [Int32.lt_iff_toInt_lt] at h1
  exact h _ (by omega)
theorem z_WBupd {w : Nat → Int32} {n v : Int32} {k : Nat} (h : WB w n) (hv : v.toInt ≤ 7) : WB (upd w k v) n := by
  intro j hj
  unfold upd
  split
  · exact hv
  · exact h j hj
theorem z_WBzero {w : Nat → Int32} : WB w 0 := fun j hj => absurd hj (by have e : (0 : Int32).toInt = 0 := rfl; omega)
theorem z_WBpush {w : Nat → Int32} {n v : Int32} (h : WB w n) (h0 : 0 ≤ n) (h1 : n < 100) (hv : v.toInt ≤ 7) : WB (upd w n.toNatClampNeg v) (n + 1) := by
  intro j hj
  unfold upd
  split
  · exact hv
  · rename_i ne
    have c := z_clamp h0
    have e : (n + 1).toInt = n.toInt + 1 := by
      rw [Int32.le_iff_toInt_le] at h0; rw [Int32.lt_iff_toInt_lt] at h1
      simp only [Int32.toInt_add, Int.bmod, Int32.reduceToInt, Nat.reducePow] at *; omega
    exact h j (by omega)
theorem z_WBle {w : Nat → Int32} {n k : Int32} (h : WB w n) (hk : k ≤ n) : WB w k := by
  intro j hj
  rw [Int32.le_iff_toInt_le] at hk
  exact h j (by omega)
theorem z_jrem (x y : Int32) (hx : 0 ≤ x) (hy : 0 < y) : 0 ≤ (jrem x y).toInt ∧ (jrem x y).toInt < y.toInt := by
  rw [Int32.le_iff_toInt_le] at hx
  rw [Int32.lt_iff_toInt_lt] at hy
  have hx' : 0 ≤ x.toInt := hx
  have hy' : 0 < y.toInt := hy
  rw [jrem_toInt x y hy']
  exact ⟨Int.tmod_nonneg _ hx', (z_tmod_lt _ _ hy').2⟩
theorem z_remN (x y : Int32) (hx : 0 ≤ x.toInt) (hy : 0 < y.toInt) : (jrem x y).toInt = x.toInt % y.toInt := by
  rw [jrem_toInt x y hy, Int.tmod_eq_emod_of_nonneg hx]
theorem z_divN (x y : Int32) (hx : 0 ≤ x.toInt) (hy : 0 < y.toInt) : (x / y).toInt = x.toInt / y.toInt := lg_idiv_nonneg hx hy
theorem z_div3 (u : Int32) (h : 1 ≤ u) : (u / 3).toInt = u.toInt / 3 := by
  rw [Int32.le_iff_toInt_le] at h
  have h' : 1 ≤ u.toInt := h
  exact z_divN u 3 (by omega) (by decide)
theorem z_div4 (u : Int32) (h : 0 ≤ u) : (u / 4).toInt = u.toInt / 4 := by
  rw [Int32.le_iff_toInt_le] at h
  exact z_divN u 4 h (by decide)
theorem z_ofNat (n : Nat) (h : n ≤ 64) : (Int32.ofNat n).toInt = n := nI_toInt (n := n) (by omega)
theorem z_cmp0 (a b : Int64) : lg_cmp a b < 0 ↔ a < b := by
  have h := lg_cmp_ge a b
  constructor
  · intro q; exact Int64.not_le.mp (fun r => absurd (h.mpr r) (Int32.not_le.mpr q))
  · intro q; exact Int32.not_le.mp (fun r => absurd (h.mp r) (Int64.not_le.mpr q))
theorem z_cmp1 (a b : Int64) : 0 < lg_cmp a b ↔ b < a := lg_cmp_gt a b
