theorem lk_155 : (Jvm.Cond.arrayClass Jvm.ClassFile.FieldType.int) ∈ wG := wG_of 155 (by decide +kernel) rfl
theorem lk_272 : (Jvm.Cond.arrayClass Jvm.ClassFile.FieldType.boolean) ∈ wG := wG_of 272 (by decide +kernel) rfl
theorem lk_327 : (Jvm.Cond.arrayClass Jvm.ClassFile.FieldType.long) ∈ wG := wG_of 327 (by decide +kernel) rfl
theorem lk_863 : (Jvm.Cond.arrayClass Jvm.ClassFile.FieldType.byte) ∈ wG := wG_of 863 (by decide +kernel) rfl
theorem lk_1639 : (Jvm.Cond.arrayClass Jvm.ClassFile.FieldType.short) ∈ wG := wG_of 1639 (by decide +kernel) rfl
/-! THE LAW over the abstract run -/
section LAWA
theorem arrOf_k {s : State} {cA : ClassId} {ty : FieldType} {k : Class} {comp : ClassId} (h2 : s.vm.classes[cA]? = some k) (h3 : k.kind = .array comp ty) : ArrOfT s cA ty := fun n z => ⟨fun k h => (by cases h), k, h2, comp, h3⟩
theorem ty_prim {s : State} {args : Array Value} {ty : FieldType} (hno : ∀ C, ty ≠ .object C) (h : (Cond.arrayClass ty).before args s = true) : ∃ cA : ClassId, ArrOfT s cA ty ∧ va_RA s cA ty := by
  obtain ⟨cA, k, comp, h1, h2, h3⟩ := Cond.arrayClass_spec h
  refine ⟨cA, arrOf_k h2 h3, ?_⟩
  cases ty with
  | object C => exact absurd rfl (hno C)
  | _ => exact h1
theorem ty_obj {s : State} {C : String} (h : va_AO C s) : ∃ cA : ClassId, ArrOfT s cA (.object C) ∧ va_RA s cA (.object C) := by
  obtain ⟨comp, cA, k, h1, h2, h3, h4, h5⟩ := Cond.arrayOver_spec h
  exact ⟨cA, arrOf_k h3 h4, k, comp, h3, h4, h1, h5⟩
theorem ty_arr {s : State} {ty : FieldType} (h : va_AOA ty s) : ∃ cA : ClassId, ArrOfT s cA (.array ty) ∧ va_RA s cA (.array ty) := by
  obtain ⟨comp, cA, k, h1, h2, h3, h4, h5⟩ := h.spec
  exact ⟨cA, arrOf_k h3 h4, h5⟩
theorem tys_ex {s : State} {args : Array Value} (hts : ∀ w ∈ lw_tbl, w.before args s = true) (hN : aNw s) : ∃ tys : List (ClassId × FieldType), tys.map Prod.snd = aTy ∧ ∀ (k : Nat) (q : ClassId × FieldType), tys[k]? = some q → ArrOfT s q.1 q.2 ∧ va_RA s q.1 q.2 := by
  obtain ⟨c0, a0⟩ := ty_prim (ty := .int) (fun _ h => by cases h) (hts _ (wG_in lk_155))
  obtain ⟨c1, a1⟩ := ty_prim (ty := .byte) (fun _ h => by cases h) (hts _ (wG_in lk_863))
  obtain ⟨c2, a2⟩ := ty_prim (ty := .short) (fun _ h => by cases h) (hts _ (wG_in lk_1639))
  obtain ⟨c3, a3⟩ := ty_prim (ty := .boolean) (fun _ h => by cases h) (hts _ (wG_in lk_272))
  obtain ⟨c4, a4⟩ := ty_prim (ty := .long) (fun _ h => by cases h) (hts _ (wG_in lk_327))
  obtain ⟨c5, a5⟩ := ty_obj hN.2.1
  obtain ⟨c6, a6⟩ := ty_obj hN.2.2.1
  obtain ⟨c7, a7⟩ := ty_obj hN.2.2.2.1
  obtain ⟨c8, a8⟩ := ty_arr hN.2.2.2.2
  refine ⟨[(c0, .int), (c1, .byte), (c2, .short), (c3, .boolean), (c4, .long), (c5, .object "SameStar$Comet"), (c6, .object "SameStar$Text"), (c7, .object "SameStar$Word"), (c8, .array .long)], rfl, fun k q hk => ?_⟩
  match k, hk with
  | 0, hk => cases hk; exact a0
  | 1, hk => cases hk; exact a1
  | 2, hk => cases hk; exact a2
  | 3, hk => cases hk; exact a3
  | 4, hk => cases hk; exact a4
  | 5, hk => cases hk; exact a5
  | 6, hk => cases hk; exact a6
  | 7, hk => cases hk; exact a7
  | 8, hk => cases hk; exact a8
  | k + 9, hk => simp at hk
theorem nest_in : ∀ q ∈ aNl, Cond.methodLinkNest q.1 q.2.1 q.2.2.1 q.2.2.2 ∈ lw_tbl := by decide +kernel
theorem nw_ex {s : State} {args : Array Value} (hts : ∀ w ∈ lw_tbl, w.before args s = true) : aNw s := by
  refine ⟨fun q hq => va_Nw.of rfl (hts _ (nest_in q hq)), va_AO.of (hts _ (List.mem_of_getElem? (i := 136) (by decide +kernel))), va_AO.of (hts _ (List.mem_of_getElem? (i := 228) (by decide +kernel))), va_AO.of (hts _ (List.mem_of_getElem? (i := 226) (by decide +kernel))), ?_⟩
  exact hts (Cond.arrayOver (.array .long)) (List.mem_of_getElem? (i := 366) (by decide +kernel))
variable {p : Program} {e : Env} {s : State} {m : MethodId} {below : List Frame} {meth : Method} {c : Code} {l : Launch} {b L : Nat} {xs : Nat → Int32} {D : va_G} {tys : List (ClassId × FieldType)} {i1 i2 : Nat} {pc : Nat}
/-- what holds all the way through the law -/
def LC (p : Program) (s : State) (m : MethodId) (meth : Method) (c : Code) (b L : Nat) (xs : Nat → Int32) (D : va_G) (tys : List (ClassId × FieldType)) : Prop := lw_At p s m meth c b L xs ∧ va_K D vwCl tys s ∧ tys.map Prod.snd = aTy ∧ aNw s ∧ L ≤ 384 ∧ aRo (fun q : Nat => s.heap.size ≤ q) s s.heap
/-- the law at pc: x is cell i1, the reference cell i2, it reads from place j on -/
def LG (p : Program) (l : Launch) (e : Env) (s : State) (m : MethodId) (below : List Frame) (meth : Method) (c : Code) (b : Nat) (D : va_G) (tys : List (ClassId × FieldType)) (i1 i2 j : Nat) (pc : Nat) (st : List aV) (h : aH) (kc ks : Nat) : Prop :=
  ∀ (H : Heap) (locs : List Loc) (cells slots : Nat) (ls : Array Slot) (us : List Value) (ws : va_W) (ax am : Nat) (e1 e2 : va_E), va_P D vwCl ws H → va_D (fun q : Nat => s.heap.size ≤ q) ws → va_S (fun q : Nat => s.heap.size ≤ q) s.heap H locs → rH tys ws h → ws[i1]? = some (ax, e1) → ws[i2]? = some (am, e2) → lv_has ls 4 [(0, .ref b), (1, .ref ax), (2, .ref am), (3, .int (nI j))] → rS ws st us → cells + kc = 600000 → slots + ks = 7302250 → W p l e room_1 s m #[Value.ref b] below meth c H locs cells slots (lw_Z below #[Value.ref b] s) (F0 m pc ls us)
theorem lg_x {j kc ks : Nat} {st : List aV} {h : aH} (C : LC p s m meth c b L xs D tys) (hd : decode code pc = .ok (.aload_n 1, 1)) (k : LG p l e s m below meth c b D tys i1 i2 j (pc + 1) (.inr (.inr (some i1)) :: st) h kc ks) : LG p l e s m below meth c b D tys i1 i2 j pc st h kc ks := by
  intro H locs cells slots ls us ws ax am e1 e2 hP hD hS hH h1 h2 hl hs hc hk
  refine lv_aload_n C.1.1 C.1.2.1 hd rfl (lv_at hl 1 rfl) ?_
  exact k H locs cells slots ls _ ws ax am e1 e2 hP hD hS hH h1 h2 hl ⟨_, us, rfl, ⟨ax, e1, h1, rfl⟩, hs⟩ hc hk
theorem lg_m {j kc ks : Nat} {st : List aV} {h : aH} (C : LC p s m meth c b L xs D tys) (hd : decode code pc = .ok (.aload_n 2, 1)) (k : LG p l e s m below meth c b D tys i1 i2 j (pc + 1) (.inr (.inr (some i2)) :: st) h kc ks) : LG p l e s m below meth c b D tys i1 i2 j pc st h kc ks := by
  intro H locs cells slots ls us ws ax am e1 e2 hP hD hS hH h1 h2 hl hs hc hk
  refine lv_aload_n C.1.1 C.1.2.1 hd rfl (lv_at hl 2 rfl) ?_
  exact k H locs cells slots ls _ ws ax am e1 e2 hP hD hS hH h1 h2 hl ⟨_, us, rfl, ⟨am, e2, h2, rfl⟩, hs⟩ hc hk
theorem lg_arg {j kc ks : Nat} {st : List aV} {h : aH} (q : Nat) {n : Int} (C : LC p s m meth c b L xs D tys) (hn : Int32.ofInt n = nI q) (hj : j + q < L) (hd0 : decode code pc = .ok (.aload_n 0, 1)) (hd1 : decode code (pc + 1) = .ok (.iload_n 3, 1)) (hd2 : decode code (pc + 2) = .ok (.iconst n, 1)) (hd3 : decode code (pc + 3) = .ok (.iadd, 1)) (hd4 : decode code (pc + 4) = .ok (.iaload, 1))
    (k : LG p l e s m below meth c b D tys i1 i2 j (pc + 5) (.inl (xs (j + q)) :: st) h kc ks) : LG p l e s m below meth c b D tys i1 i2 j pc st h kc ks := by
  intro H locs cells slots ls us ws ax am e1 e2 hP hD hS hH h1 h2 hl hs hc hk
  have hx := C.1.1
  have hb := C.1.2.1
  have hL := C.2.2.2.2.1
  have hX : va_X b L xs s s.heap := C.1.2.2.2.2.2.2.1
  have hbl : b < s.heap.size := C.1.2.2.2.2.2.2.2.1
  refine lv_aload_n hx hb hd0 rfl (lv_at hl 0 rfl) ?_
  refine lv_iload_n hx hb hd1 rfl (lv_at hl 3 rfl) ?_
  refine lv_iconst hx hb hd2 hn ?_
  refine lv_iadd hx hb hd3 ?_
  rw [nI_add]
  refine va_sld hx hb hX hbl (Nat.not_le.mpr hbl) hS (vp_in_nI hj (by omega)) hd4 ?_
  rw [nI_clamp (by omega)]
  exact k H locs cells slots ls _ ws ax am e1 e2 hP hD hS hH h1 h2 hl ⟨_, us, rfl, rfl, hs⟩ hc hk
theorem lg_i2l {j kc ks : Nat} {st : List aV} {h : aH} {x : Int32} (hd : decode code pc = .ok (.i2l, 1)) (C : LC p s m meth c b L xs D tys) (k : LG p l e s m below meth c b D tys i1 i2 j (pc + 1) (.inr (.inl x.toInt64) :: st) h kc ks) : LG p l e s m below meth c b D tys i1 i2 j pc (.inl x :: st) h kc ks := by
  intro H locs cells slots ls us ws ax am e1 e2 hP hD hS hH h1 h2 hl hs hc hk
  obtain ⟨u, us, rfl, hv, hs⟩ := hs
  cases hv
  refine lv_i2l C.1.1 C.1.2.1 hd rfl ?_
  exact k H locs cells slots ls _ ws ax am e1 e2 hP hD hS hH h1 h2 hl ⟨_, us, rfl, rfl, hs⟩ hc hk
theorem lg_bip {j kc ks : Nat} {st : List aV} {h : aH} {n : Int} {v : Int32} (hv : (Int8.ofInt n).toInt32 = v) (hd : decode code pc = .ok (.bipush n, 2)) (C : LC p s m meth c b L xs D tys) (k : LG p l e s m below meth c b D tys i1 i2 j (pc + 2) (.inl v :: st) h kc ks) : LG p l e s m below meth c b D tys i1 i2 j pc (st) h kc ks := by
  intro H locs cells slots ls us ws ax am e1 e2 hP hD hS hH h1 h2 hl hs hc hk
  refine lv_bipush C.1.1 C.1.2.1 hd hv ?_
  exact k H locs cells slots ls _ ws ax am e1 e2 hP hD hS hH h1 h2 hl ⟨_, us, rfl, rfl, hs⟩ hc hk
theorem lg_shl {j kc ks : Nat} {st : List aV} {h : aH} {x : Int64} {y : Int32} (hd : decode code pc = .ok (.lshl, 1)) (C : LC p s m meth c b L xs D tys) (k : LG p l e s m below meth c b D tys i1 i2 j (pc + 1) (.inr (.inl (x <<< (y.toInt64 &&& 63))) :: st) h kc ks) : LG p l e s m below meth c b D tys i1 i2 j pc (.inl y :: .inr (.inl x) :: st) h kc ks := by
  intro H locs cells slots ls us ws ax am e1 e2 hP hD hS hH h1 h2 hl hs hc hk
  obtain ⟨u, us, rfl, hv, hs⟩ := hs
  obtain ⟨u2, us, rfl, hv2, hs⟩ := hs
  cases hv
  cases hv2
  refine lv_lshl C.1.1 C.1.2.1 hd rfl ?_
  exact k H locs cells slots ls _ ws ax am e1 e2 hP hD hS hH h1 h2 hl ⟨_, us, rfl, rfl, hs⟩ hc hk
theorem lg_ldc2 {j kc ks : Nat} {st : List aV} {h : aH} {index : Nat} {v : Int64} (hw : Cond.constantLong R_law index v ∈ wG) (hd : decode code pc = .ok (.ldc2_w index, 3)) (C : LC p s m meth c b L xs D tys) (k : LG p l e s m below meth c b D tys i1 i2 j (pc + 3) (.inr (.inl v) :: st) h kc ks) : LG p l e s m below meth c b D tys i1 i2 j pc (st) h kc ks := by
  intro H locs cells slots ls us ws ax am e1 e2 hP hD hS hH h1 h2 hl hs hc hk
  refine lv_ldc2 C.1.1 C.1.2.1 C.1.2.2.2.2.1 (C.1.2.2.2.2.2.1 _ (wG_in hw)) hd ?_
  exact k H locs cells slots ls _ ws ax am e1 e2 hP hD hS hH h1 h2 hl ⟨_, us, rfl, rfl, hs⟩ hc hk
theorem lg_land {j kc ks : Nat} {st : List aV} {h : aH} {x y : Int64} (hd : decode code pc = .ok (.land, 1)) (C : LC p s m meth c b L xs D tys) (k : LG p l e s m below meth c b D tys i1 i2 j (pc + 1) (.inr (.inl (x &&& y)) :: st) h kc ks) : LG p l e s m below meth c b D tys i1 i2 j pc (.inr (.inl y) :: .inr (.inl x) :: st) h kc ks := by
  intro H locs cells slots ls us ws ax am e1 e2 hP hD hS hH h1 h2 hl hs hc hk
  obtain ⟨u, us, rfl, hv, hs⟩ := hs
  obtain ⟨u2, us, rfl, hv2, hs⟩ := hs
  cases hv
  cases hv2
  refine lv_land C.1.1 C.1.2.1 hd ?_
  exact k H locs cells slots ls _ ws ax am e1 e2 hP hD hS hH h1 h2 hl ⟨_, us, rfl, rfl, hs⟩ hc hk
theorem lg_lor {j kc ks : Nat} {st : List aV} {h : aH} {x y : Int64} (hd : decode code pc = .ok (.lor, 1)) (C : LC p s m meth c b L xs D tys) (k : LG p l e s m below meth c b D tys i1 i2 j (pc + 1) (.inr (.inl (x ||| y)) :: st) h kc ks) : LG p l e s m below meth c b D tys i1 i2 j pc (.inr (.inl y) :: .inr (.inl x) :: st) h kc ks := by
  intro H locs cells slots ls us ws ax am e1 e2 hP hD hS hH h1 h2 hl hs hc hk
  obtain ⟨u, us, rfl, hv, hs⟩ := hs
  obtain ⟨u2, us, rfl, hv2, hs⟩ := hs
  cases hv
  cases hv2
  refine lv_lor C.1.1 C.1.2.1 hd ?_
  exact k H locs cells slots ls _ ws ax am e1 e2 hP hD hS hH h1 h2 hl ⟨_, us, rfl, rfl, hs⟩ hc hk
theorem lg_lcmp {j kc ks : Nat} {st : List aV} {h : aH} {x y : Int64} (hd : decode code pc = .ok (.lcmp, 1)) (C : LC p s m meth c b L xs D tys) (k : LG p l e s m below meth c b D tys i1 i2 j (pc + 1) (.inl (lg_cmp x y) :: st) h kc ks) : LG p l e s m below meth c b D tys i1 i2 j pc (.inr (.inl y) :: .inr (.inl x) :: st) h kc ks := by
  intro H locs cells slots ls us ws ax am e1 e2 hP hD hS hH h1 h2 hl hs hc hk
  obtain ⟨u, us, rfl, hv, hs⟩ := hs
  obtain ⟨u2, us, rfl, hv2, hs⟩ := hs
  cases hv
  cases hv2
  refine W.lcmp C.1.1 C.1.2.1 hd ?_
  exact k H locs cells slots ls _ ws ax am e1 e2 hP hD hS hH h1 h2 hl ⟨_, us, rfl, rfl, hs⟩ hc hk
theorem lg_eq {j kc ks t : Nat} {st : List aV} {h : aH} {x : Int32} {off : Int} (C : LC p s m meth c b L xs D tys) (hd : decode code pc = .ok (.if_icmp .eq off, 3)) (ht : (pc : Int) + off = (t : Int)) (k : LG p l e s m below meth c b D tys i1 i2 j t st h kc ks) : LG p l e s m below meth c b D tys i1 i2 j pc (.inl x :: .inl x :: st) h kc ks := by
  intro H locs cells slots ls us ws ax am e1 e2 hP hD hS hH h1 h2 hl hs hc hk
  obtain ⟨u, us, rfl, hv, hs⟩ := hs
  obtain ⟨u2, us, rfl, hv2, hs⟩ := hs
  cases hv
  cases hv2
  refine lv_icmp_eq C.1.1 C.1.2.1 hd ht (fun q => ?_) (fun q => absurd rfl q)
  exact k H locs cells slots ls _ ws ax am e1 e2 hP hD hS hH h1 h2 hl hs hc hk
theorem lg_eq0 {j kc ks t : Nat} {st : List aV} {h : aH} {off : Int} {x : Int32} (hx0 : x = 0) (C : LC p s m meth c b L xs D tys) (hd : decode code pc = .ok (.ifCond .eq off, 3)) (ht : (pc : Int) + off = (t : Int)) (k : LG p l e s m below meth c b D tys i1 i2 j t st h kc ks) : LG p l e s m below meth c b D tys i1 i2 j pc (.inl x :: st) h kc ks := by
  intro H locs cells slots ls us ws ax am e1 e2 hP hD hS hH h1 h2 hl hs hc hk
  obtain ⟨u, us, rfl, hv, hs⟩ := hs
  cases hv
  refine lv_if_eq C.1.1 C.1.2.1 hd ht (fun q => ?_) (fun q => absurd hx0 q)
  exact k H locs cells slots ls _ ws ax am e1 e2 hP hD hS hH h1 h2 hl hs hc hk
theorem lg_goto {j kc ks t : Nat} {st : List aV} {h : aH} {off : Int} (C : LC p s m meth c b L xs D tys) (hd : decode code pc = .ok (.goto off, 3)) (ht : (pc : Int) + off = (t : Int)) (k : LG p l e s m below meth c b D tys i1 i2 j t st h kc ks) : LG p l e s m below meth c b D tys i1 i2 j pc st h kc ks := by
  intro H locs cells slots ls us ws ax am e1 e2 hP hD hS hH h1 h2 hl hs hc hk
  refine lv_goto C.1.1 C.1.2.1 hd ht ?_
  exact k H locs cells slots ls _ ws ax am e1 e2 hP hD hS hH h1 h2 hl hs hc hk
theorem lg_CB {s : State} {args : Array Value} {d mc' ms' n : Nat} {own : String} {index : Nat} {M : aMd} (hts : ∀ w ∈ wG, w.before args s = true) (hcode : Cond.code M.1 M.2.1 M.2.2.1 M.2.2.2.1 ∈ wG) (hini : Cond.initialized M.1.cls ∈ wG) (hl : Cond.methodLink own index M.1 ∈ wG) (hd : M.1.cls ≠ "java/lang/invoke/MethodHandle" ∧ M.1.cls ≠ "java/lang/invoke/VarHandle" ∧ (parseMethodDescriptor M.1.desc).map (fun d => d.parameters.length) = some n) (hn : M.2.2.1 ≤ 21) (hdd : d ≤ 1000) : CallB room_1 s args own index M.1 M.2.1 M.2.2.1 M.2.2.2.1 (wsA M) (aRm d mc' ms') mc' ms' n :=
  callB_of n hts (wG_good (fun w hw => by
    rcases List.mem_cons.mp hw with rfl | hw
    · exact hcode
    · exact hw)) rfl rfl rfl (hts _ hini) (hts _ hl) hd ⟨by show d + 8 + 1 ≤ 2048; omega, by show 8 + (M.2.2.1 + 11) + (40 * d + 500) ≤ 84000; omega⟩
/-- a call of a method of x or of the reference -/
theorem lg_call {j kc ks d mc ms mi n index ci N : Nat} {T : u_T} {st : List aV} {h : aH} {M : aMd} {P : Option aV → aH → Prop} {Mt : List aMd} (hOK : aOK Mt d (aCall Mt d)) (hdd : d ≤ 1000) (C : LC p s m meth c b L xs D tys) (hM : Mt[mi]? = some M) (hcode : Cond.code M.1 M.2.1 M.2.2.1 M.2.2.2.1 ∈ wG) (hini : Cond.initialized M.1.cls ∈ wG) (hcl : vwCl[ci]? = some (M.1.cls, T, N)) (hlk : Cond.methodLink R_law index M.1 ∈ wG) (him : Cond.instanceMethod M.1 ∈ wG) (hsel : Cond.selects M.1.cls M.1 M.1 ∈ wG) (hdn : M.1.cls ≠ "java/lang/invoke/MethodHandle" ∧ M.1.cls ≠ "java/lang/invoke/VarHandle" ∧ (parseMethodDescriptor M.1.desc).map (fun d => d.parameters.length) = some n) (hn21 : M.2.2.1 ≤ 21) (hd : decode code pc = .ok (.invokevirtual index, 3))
    {vs rest : List aV} {a : Nat} {fs : List aV} (hvs : st = vs.reverse ++ .inr (.inr (some a)) :: rest) (hvl : vs.length = n) (hrl : rest.length ≤ 4) (ha : h[a]? = some (.inl (ci, fs))) (hmc : mc ≤ kc) (hms : ms ≤ ks) (hcall : aCall Mt d mi (.inr (.inr (some a)) :: vs) h mc ms P)
    (kk : ∀ r h', P r h' → LG p l e s m below meth c b D tys i1 i2 j (pc + 3) (r.toList ++ rest) h' (kc - mc) (ks - ms)) : LG p l e s m below meth c b D tys i1 i2 j pc st h kc ks := by
  intro H locs cells slots ls us ws ax am e1 e2 hP hD hS hH h1 h2 hl hs hc hk
  subst hvs
  have hsp := hs.split (n := n)
  have ht1 : (vs.reverse ++ (.inr (.inr (some a)) :: rest : List aV)).take n = vs.reverse := by rw [List.take_append_of_le_length (by rw [List.length_reverse]; omega), List.take_of_length_le (by rw [List.length_reverse]; omega)]
  have ht2 : (vs.reverse ++ (.inr (.inr (some a)) :: rest : List aV)).drop n = .inr (.inr (some a)) :: rest := by rw [List.drop_append_of_le_length (by rw [List.length_reverse]; omega), List.drop_of_length_le (by rw [List.length_reverse]; omega), List.nil_append]
  rw [ht1, ht2] at hsp
  obtain ⟨hs1, hs2⟩ := hsp
  obtain ⟨z, zs, hz1, hz2, hz3⟩ := hs2
  have hAs : rS ws vs (us.take n).reverse := by have := hs1.rev; rw [List.reverse_reverse] at this; exact this
  obtain ⟨bx, gs, rfl, hb1, hb2⟩ := hH.obj ha hz2
  have hMet := hOK mi M hM _ h mc ms P hcall l D tys ws (.ref bx :: (us.take n).reverse) H.size C.2.2.1 hH ⟨_, _, rfl, hz2, hAs⟩
  have hlen : (us.take n).reverse.length = n := by rw [hAs.len]; exact hvl
  have hstk : us = (us.take n).reverse.reverse ++ .ref bx :: zs := by
    rw [List.reverse_reverse, ← hz1, List.take_append_drop]
  have hcat : (zs.map fun v => v.category).sum ≤ 8 := by
    have q1 := hz3.len
    have q2 := cat_le zs
    omega
  have hts : ∀ w ∈ wG, w.before #[Value.ref b] s = true := fun w hw => C.1.2.2.2.2.2.1 w (wG_in hw)
  have hA : ∀ q : Nat, s.heap.size ≤ q → (fun q : Nat => s.heap.size ≤ q) q := fun _ q => q
  refine a_call (va_runV ⟨C.1.1, C.1.2.1, C.1.2.2.2.1, C.1.2.2.2.2.1, hts⟩ hMet ⟨lg_CB hts hcode hini hlk hdn hn21 hdd, hts _ him, hts _ hsel⟩ ⟨aPc_blind, va_recv C.2.1 hP hcl hb1, fun U hU hW => aPc_at hU hW hP C.2.1 C.2.2.2.1 hD C.2.2.2.2.2 hS hA⟩ rfl hlen hl.1 hstk (lv_room hcat) hd ⟨by show cells + mc ≤ 600000; omega, by show slots + ms ≤ 7302250; omega⟩) hS hD hA (fun r h' u w H1 locs1 hrr hp hXu hHu hPu hDu hSu => ?_)
  obtain ⟨f1, g1⟩ := hXu i1 ax e1 h1
  obtain ⟨f2, g2⟩ := hXu i2 am e2 h2
  exact kk r h' hp H1 locs1 (cells + mc) (slots + ms) ls _ u ax am f1 f2 hPu hDu hSu hHu g1 g2 hl (rR_st hrr (hz3.ext hXu)) (by omega) (by omega)
end LAWA
