/-! OPERATIONS, and that the machine does what they say -/
section OPS
def aGd (p : Program) (l : Launch) (e : Env) (R : Room) (s : State) (m : MethodId) (args : Array Value) (below : List Frame) (meth : Method) (c : Code) (D : va_G) (tys : List (ClassId × FieldType)) (A : Nat → Prop) (H0 : Heap) (nL : Nat) (w0 : va_W) (Q : State → Prop) (pc : Nat) (f : aF) : Prop :=
  ∀ (H : Heap) (locs : List Loc) (cells slots : Nat) (ls : Array Slot) (st : List Value) (ws : va_W), va_P D vwCl ws H → va_D A ws → va_S A H0 H locs → rX w0 ws → rH tys ws f.2.2.1 → rL ws f.1 ls nL → rS ws f.2.1 st → cells + f.2.2.2.1 = R.cells → slots + f.2.2.2.2 = R.slots → W p l e R s m args below meth c H locs cells slots Q (F0 m pc ls st)
def aCx (p : Program) (R : Room) (s : State) (m : MethodId) (args : Array Value) (meth : Method) (c : Code) (own : String) (cc : ByteArray) (nL : Nat) (ini : Bool) (D : va_G) (tys : List (ClassId × FieldType)) (A : Nat → Prop) (H0 : Heap) : Prop :=
  p.tables.exec = Jvm.exec ∧ c.code = cc ∧ c.maxLocals = nL ∧ s.vm.findClass own = some m.cls ∧ (∀ w ∈ wG, w.before args s = true) ∧ va_K D vwCl tys s ∧ tys.map Prod.snd = aTy ∧ (∀ q, H0.size ≤ q → A q) ∧ (ini = true → meth.name = "<init>") ∧ (aNw s ∧ aRo A s s.heap ∧ H0 = s.heap ∧ 8 ≤ R.frames ∧ 500 ≤ R.locals) ∧ 1 ≤ R.frames ∧ 60 ≤ R.locals
/-- what the operation g at pc says, the machine does -/
def SndF (own : String) (cc : ByteArray) (nL : Nat) (ini : Bool) (pc : Nat) (g : aF → Option (Nat × aF)) : Prop :=
  ∀ (p : Program) (l : Launch) (e : Env) (R : Room) (s : State) (m : MethodId) (args : Array Value) (below : List Frame) (meth : Method) (c : Code) (D : va_G) (tys : List (ClassId × FieldType)) (A : Nat → Prop) (H0 : Heap) (w0 : va_W) (Q : State → Prop), aCx p R s m args meth c own cc nL ini D tys A H0 →
  ∀ (f : aF) (pc' : Nat) (f' : aF), g f = some (pc', f') → aGd p l e R s m args below meth c D tys A H0 nL w0 Q pc' f' → aGd p l e R s m args below meth c D tys A H0 nL w0 Q pc f
variable {own : String} {cc : ByteArray} {nL : Nat} {ini : Bool} {pc : Nat}
/-- a value comes onto the stack -/
def oPush (n : Nat) (v : aV) : aF → Option (Nat × aF) := fun f => some (n, f.1, v :: f.2.1, f.2.2)
def oLoadI (n i : Nat) : aF → Option (Nat × aF) := fun f => match f.1[i]? with
  | some (some (.inl x)) => some (n, f.1, .inl x :: f.2.1, f.2.2)
  | _ => none
def oLoadJ (n i : Nat) : aF → Option (Nat × aF) := fun f => match f.1[i]? with
  | some (some (.inr (.inl x))) => some (n, f.1, .inr (.inl x) :: f.2.1, f.2.2)
  | _ => none
def oLoadA (n i : Nat) : aF → Option (Nat × aF) := fun f => match f.1[i]? with
  | some (some (.inr (.inr x))) => some (n, f.1, .inr (.inr x) :: f.2.1, f.2.2)
  | _ => none
/-- the local that a two-slot value ahead of place i loses -/
def aCl (al : aL) (i : Nat) : aL := match i with
  | 0 => al
  | j + 1 => match al[j]? with
    | some (some (.inr (.inl _))) => al.set j none
    | _ => al
def aSt1 (al : aL) (i : Nat) (v : aV) : aL := (aCl al i).set i (some v)
def aSt2 (al : aL) (i : Nat) (v : aV) : aL := ((aCl al i).set i (some v)).set (i + 1) none
def oStI (n i : Nat) : aF → Option (Nat × aF) := fun f => match f.2.1 with
  | .inl x :: r => some (n, aSt1 f.1 i (.inl x), r, f.2.2)
  | _ => none
def oStA (n i : Nat) : aF → Option (Nat × aF) := fun f => match f.2.1 with
  | .inr (.inr x) :: r => some (n, aSt1 f.1 i (.inr (.inr x)), r, f.2.2)
  | _ => none
def oStJ (n i : Nat) : aF → Option (Nat × aF) := fun f => match f.2.1 with
  | .inr (.inl x) :: r => some (n, aSt2 f.1 i (.inr (.inl x)), r, f.2.2)
  | _ => none
def oInc (n i : Nat) (d : Int32) : aF → Option (Nat × aF) := fun f => match f.1[i]? with
  | some (some (.inl x)) => some (n, aSt1 f.1 i (.inl (x + d)), f.2.1, f.2.2)
  | _ => none
def oBin (n : Nat) (q : Int32 → Int32 → Int32) : aF → Option (Nat × aF) := fun f => match f.2.1 with
  | .inl y :: .inl x :: r => some (n, f.1, .inl (q x y) :: r, f.2.2)
  | _ => none
def oUn (n : Nat) (q : Int32 → Int32) : aF → Option (Nat × aF) := fun f => match f.2.1 with
  | .inl x :: r => some (n, f.1, .inl (q x) :: r, f.2.2)
  | _ => none
/-- a division: none, if the divisor is 0 -/
def oDiv (n : Nat) (q : Int32 → Int32 → Int32) : aF → Option (Nat × aF) := fun f => match f.2.1 with
  | .inl y :: .inl x :: r => if y = 0 then none else some (n, f.1, .inl (q x y) :: r, f.2.2)
  | _ => none
def oBinJ (n : Nat) (q : Int64 → Int64 → Int64) : aF → Option (Nat × aF) := fun f => match f.2.1 with
  | .inr (.inl y) :: .inr (.inl x) :: r => some (n, f.1, .inr (.inl (q x y)) :: r, f.2.2)
  | _ => none
def oCmpJ (n : Nat) (q : Int64 → Int64 → Int32) : aF → Option (Nat × aF) := fun f => match f.2.1 with
  | .inr (.inl y) :: .inr (.inl x) :: r => some (n, f.1, .inl (q x y) :: r, f.2.2)
  | _ => none
def oShJ (n : Nat) (q : Int64 → Int32 → Int64) : aF → Option (Nat × aF) := fun f => match f.2.1 with
  | .inl y :: .inr (.inl x) :: r => some (n, f.1, .inr (.inl (q x y)) :: r, f.2.2)
  | _ => none
def oI2L (n : Nat) : aF → Option (Nat × aF) := fun f => match f.2.1 with
  | .inl x :: r => some (n, f.1, .inr (.inl x.toInt64) :: r, f.2.2)
  | _ => none
def oL2I (n : Nat) : aF → Option (Nat × aF) := fun f => match f.2.1 with
  | .inr (.inl x) :: r => some (n, f.1, .inl x.toInt32 :: r, f.2.2)
  | _ => none
def oIf1 (t n : Nat) (q : Int32 → Bool) : aF → Option (Nat × aF) := fun f => match f.2.1 with
  | .inl x :: r => some (bif q x then t else n, f.1, r, f.2.2)
  | _ => none
def oIf2 (t n : Nat) (q : Int32 → Int32 → Bool) : aF → Option (Nat × aF) := fun f => match f.2.1 with
  | .inl y :: .inl x :: r => some (bif q x y then t else n, f.1, r, f.2.2)
  | _ => none
/-- a: where null goes on, b: where a reference does -/
def oNul (a b : Nat) : aF → Option (Nat × aF) := fun f => match f.2.1 with
  | .inr (.inr none) :: r => some (a, f.1, r, f.2.2)
  | .inr (.inr (some _)) :: r => some (b, f.1, r, f.2.2)
  | _ => none
def oGo (n : Nat) : aF → Option (Nat × aF) := fun f => some (n, f)
def a1 (v : aV) : Bool := match v with
  | .inr (.inl _) => false
  | _ => true
def oDup (n : Nat) : aF → Option (Nat × aF) := fun f => match f.2.1 with
  | v :: r => bif a1 v then some (n, f.1, v :: v :: r, f.2.2) else none
  | _ => none
def oPop (n : Nat) : aF → Option (Nat × aF) := fun f => match f.2.1 with
  | v :: r => bif a1 v then some (n, f.1, r, f.2.2) else none
  | _ => none
def oDup2 (n : Nat) : aF → Option (Nat × aF) := fun f => match f.2.1 with
  | v :: w :: r => bif a1 v && a1 w then some (n, f.1, v :: w :: v :: w :: r, f.2.2) else none
  | _ => none
theorem a1_cat {ws : va_W} {v : aV} {u : Value} (h : rV ws v u) (ha : a1 v = true) : u.category = 1 := by
  match v, h, ha with
  | .inl x, h, _ => rw [show u = .int x from h]; rfl
  | .inr (.inr none), h, _ => rw [show u = .null from h]; rfl
  | .inr (.inr (some k)), h, _ =>
    obtain ⟨a, e, -, h2⟩ := h
    rw [h2]; rfl
theorem rS.c {ws : va_W} {v : aV} {vs : List aV} {us : List Value} (h : rS ws (v :: vs) us) : ∃ u us', us = u :: us' ∧ rV ws v u ∧ rS ws vs us' := h

theorem s_iconst {n : Int} {v : Int32} (hd : decode cc pc = .ok (.iconst n, 1)) (hv : Int32.ofInt n = v) : SndF own cc nL ini pc (oPush (pc + 1) (.inl v)) := by
  intro p l e R s m args below meth c D tys A H0 w0 Q hx f pc' f' hg k
  cases hg
  intro H locs cells slots ls st ws hP hD hS hX hH hL hs hc hk
  refine lv_iconst hx.1 hx.2.1 hd hv ?_
  exact k H locs cells slots ls _ ws hP hD hS hX hH hL ⟨_, _, rfl, rfl, hs⟩ hc hk
theorem s_bipush {n : Int} {v : Int32} (hd : decode cc pc = .ok (.bipush n, 2)) (hv : (Int8.ofInt n).toInt32 = v) : SndF own cc nL ini pc (oPush (pc + 2) (.inl v)) := by
  intro p l e R s m args below meth c D tys A H0 w0 Q hx f pc' f' hg k
  cases hg
  intro H locs cells slots ls st ws hP hD hS hX hH hL hs hc hk
  refine lv_bipush hx.1 hx.2.1 hd hv ?_
  exact k H locs cells slots ls _ ws hP hD hS hX hH hL ⟨_, _, rfl, rfl, hs⟩ hc hk
theorem s_sipush {n : Int} {v : Int32} (hd : decode cc pc = .ok (.sipush n, 3)) (hv : (Int16.ofInt n).toInt32 = v) : SndF own cc nL ini pc (oPush (pc + 3) (.inl v)) := by
  intro p l e R s m args below meth c D tys A H0 w0 Q hx f pc' f' hg k
  cases hg
  intro H locs cells slots ls st ws hP hD hS hX hH hL hs hc hk
  refine lv_sipush hx.1 hx.2.1 hd hv ?_
  exact k H locs cells slots ls _ ws hP hD hS hX hH hL ⟨_, _, rfl, rfl, hs⟩ hc hk
theorem s_lconst {n : Fin 2} {v : Int64} (hd : decode cc pc = .ok (.lconst n, 1)) (hv : Int64.ofNat (n : Nat) = v) : SndF own cc nL ini pc (oPush (pc + 1) (.inr (.inl v))) := by
  intro p l e R s m args below meth c D tys A H0 w0 Q hx f pc' f' hg k
  cases hg
  intro H locs cells slots ls st ws hP hD hS hX hH hL hs hc hk
  refine lv_lconst hx.1 hx.2.1 hd hv ?_
  exact k H locs cells slots ls _ ws hP hD hS hX hH hL ⟨_, _, rfl, rfl, hs⟩ hc hk
theorem s_null (hd : decode cc pc = .ok (.aconst_null, 1)) : SndF own cc nL ini pc (oPush (pc + 1) (.inr (.inr none))) := by
  intro p l e R s m args below meth c D tys A H0 w0 Q hx f pc' f' hg k
  cases hg
  intro H locs cells slots ls st ws hP hD hS hX hH hL hs hc hk
  refine lv_null hx.1 hx.2.1 hd ?_
  exact k H locs cells slots ls _ ws hP hD hS hX hH hL ⟨_, _, rfl, rfl, hs⟩ hc hk
theorem s_ldc {index : Nat} {v : Int32} (hw : Cond.constant own index v ∈ wG) (hd : decode cc pc = .ok (.ldc index, 2)) : SndF own cc nL ini pc (oPush (pc + 2) (.inl v)) := by
  intro p l e R s m args below meth c D tys A H0 w0 Q hx f pc' f' hg k
  cases hg
  intro H locs cells slots ls st ws hP hD hS hX hH hL hs hc hk
  refine lv_ldc hx.1 hx.2.1 hx.2.2.2.1 (hx.2.2.2.2.1 _ hw) hd ?_
  exact k H locs cells slots ls _ ws hP hD hS hX hH hL ⟨_, _, rfl, rfl, hs⟩ hc hk
theorem s_iload_n {i : Nat} {j : Fin 4} (hd : decode cc pc = .ok (.iload_n j, 1)) (hj : (j : Nat) = i) : SndF own cc nL ini pc (oLoadI (pc + 1) i) := by
  intro p l e R s m args below meth c D tys A H0 w0 Q hx f pc' f' hg k
  intro H locs cells slots ls st ws hP hD hS hX hH hL hs hc hk
  unfold oLoadI at hg
  split at hg
  · rename_i x hi
    cases hg
    obtain ⟨-, u, h1, h2⟩ := hL.2.2 _ _ hi
    cases h2
    refine lv_iload_n hx.1 hx.2.1 hd hj h1 ?_
    exact k H locs cells slots ls _ ws hP hD hS hX hH hL ⟨_, _, rfl, rfl, hs⟩ hc hk
  · cases hg
theorem s_iload {i : Nat} (hd : decode cc pc = .ok (.iload i, 2)) : SndF own cc nL ini pc (oLoadI (pc + 2) i) := by
  intro p l e R s m args below meth c D tys A H0 w0 Q hx f pc' f' hg k
  intro H locs cells slots ls st ws hP hD hS hX hH hL hs hc hk
  unfold oLoadI at hg
  split at hg
  · rename_i x hi
    cases hg
    obtain ⟨-, u, h1, h2⟩ := hL.2.2 _ _ hi
    cases h2
    refine lv_iload hx.1 hx.2.1 hd h1 ?_
    exact k H locs cells slots ls _ ws hP hD hS hX hH hL ⟨_, _, rfl, rfl, hs⟩ hc hk
  · cases hg
theorem s_lload_n {i : Nat} {j : Fin 4} (hd : decode cc pc = .ok (.lload_n j, 1)) (hj : (j : Nat) = i) : SndF own cc nL ini pc (oLoadJ (pc + 1) i) := by
  intro p l e R s m args below meth c D tys A H0 w0 Q hx f pc' f' hg k
  intro H locs cells slots ls st ws hP hD hS hX hH hL hs hc hk
  unfold oLoadJ at hg
  split at hg
  · rename_i x hi
    cases hg
    obtain ⟨-, u, h1, h2⟩ := hL.2.2 _ _ hi
    cases h2
    refine lv_lload_n hx.1 hx.2.1 hd hj h1 ?_
    exact k H locs cells slots ls _ ws hP hD hS hX hH hL ⟨_, _, rfl, rfl, hs⟩ hc hk
  · cases hg
theorem s_lload {i : Nat} (hd : decode cc pc = .ok (.lload i, 2)) : SndF own cc nL ini pc (oLoadJ (pc + 2) i) := by
  intro p l e R s m args below meth c D tys A H0 w0 Q hx f pc' f' hg k
  intro H locs cells slots ls st ws hP hD hS hX hH hL hs hc hk
  unfold oLoadJ at hg
  split at hg
  · rename_i x hi
    cases hg
    obtain ⟨-, u, h1, h2⟩ := hL.2.2 _ _ hi
    cases h2
    refine lv_lload hx.1 hx.2.1 hd h1 ?_
    exact k H locs cells slots ls _ ws hP hD hS hX hH hL ⟨_, _, rfl, rfl, hs⟩ hc hk
  · cases hg
theorem lx_aloadN {p : Program} {l : Launch} {e : Env} {R : Room} {s : State} {m : MethodId} {args : Array Value} {below : List Frame} {meth : Method} {c : Code} {H : Heap} {locs : List Loc} {cells slots : Nat} {Q : State → Prop} {ls : Array Slot} {rest : List Value} (hexec : p.tables.exec = Jvm.exec) (hb : c.code = cc) {i : Nat} {j : Fin 4} (hdg : decode cc pc = .ok (.aload_n j, 1)) (hj : (j : Nat) = i) (hl : ls[i]? = some (.val .null)) (k : W p l e R s m args below meth c H locs cells slots Q (F0 m (pc + 1) ls (.null :: rest))) : W p l e R s m args below meth c H locs cells slots Q (F0 m pc ls rest) := by
  intro T hT X
  obtain ⟨t, a, b⟩ := k T hT X
  refine ⟨t, ?_, b⟩
  subst hj
  jvm_step X.here [X.here.top, hexec, hb, hdg, hl, Value.isRef]
  exact a
theorem lx_aloadM {p : Program} {l : Launch} {e : Env} {R : Room} {s : State} {m : MethodId} {args : Array Value} {below : List Frame} {meth : Method} {c : Code} {H : Heap} {locs : List Loc} {cells slots : Nat} {Q : State → Prop} {ls : Array Slot} {rest : List Value} (hexec : p.tables.exec = Jvm.exec) (hb : c.code = cc) {i : Nat} (hdg : decode cc pc = .ok (.aload i, 2)) (hl : ls[i]? = some (.val .null)) (k : W p l e R s m args below meth c H locs cells slots Q (F0 m (pc + 2) ls (.null :: rest))) : W p l e R s m args below meth c H locs cells slots Q (F0 m pc ls rest) := by
  intro T hT X
  obtain ⟨t, a, b⟩ := k T hT X
  refine ⟨t, ?_, b⟩
  jvm_step X.here [X.here.top, hexec, hb, hdg, hl, Value.isRef]
  exact a
theorem s_aload_n {i : Nat} {j : Fin 4} (hd : decode cc pc = .ok (.aload_n j, 1)) (hj : (j : Nat) = i) : SndF own cc nL ini pc (oLoadA (pc + 1) i) := by
  intro p l e R s m args below meth c D tys A H0 w0 Q hx f pc' f' hg k
  intro H locs cells slots ls st ws hP hD hS hX hH hL hs hc hk
  unfold oLoadA at hg
  split at hg
  · rename_i x hi
    cases hg
    obtain ⟨-, u, h1, h2⟩ := hL.2.2 _ _ hi
    cases x with
    | none =>
      cases h2
      refine lx_aloadN hx.1 hx.2.1 hd hj h1 ?_
      exact k H locs cells slots ls _ ws hP hD hS hX hH hL ⟨_, _, rfl, rfl, hs⟩ hc hk
    | some y =>
      obtain ⟨a, e2, h3, rfl⟩ := h2
      refine lv_aload_n hx.1 hx.2.1 hd hj h1 ?_
      exact k H locs cells slots ls _ ws hP hD hS hX hH hL ⟨_, _, rfl, ⟨a, e2, h3, rfl⟩, hs⟩ hc hk
  · cases hg
theorem s_aload {i : Nat} (hd : decode cc pc = .ok (.aload i, 2)) : SndF own cc nL ini pc (oLoadA (pc + 2) i) := by
  intro p l e R s m args below meth c D tys A H0 w0 Q hx f pc' f' hg k
  intro H locs cells slots ls st ws hP hD hS hX hH hL hs hc hk
  unfold oLoadA at hg
  split at hg
  · rename_i x hi
    cases hg
    obtain ⟨-, u, h1, h2⟩ := hL.2.2 _ _ hi
    cases x with
    | none =>
      cases h2
      refine lx_aloadM hx.1 hx.2.1 hd h1 ?_
      exact k H locs cells slots ls _ ws hP hD hS hX hH hL ⟨_, _, rfl, rfl, hs⟩ hc hk
    | some y =>
      obtain ⟨a, e2, h3, rfl⟩ := h2
      refine lv_aload hx.1 hx.2.1 hd h1 ?_
      exact k H locs cells slots ls _ ws hP hD hS hX hH hL ⟨_, _, rfl, ⟨a, e2, h3, rfl⟩, hs⟩ hc hk
  · cases hg
def lvA (ls : Array Slot) : List (Nat × Value) := (List.range ls.size).filterMap (fun j : Nat => match (ls[j]? : Option Slot) with
  | some (Slot.val u) => some (j, u)
  | _ => none)
theorem lvA_mem {ls : Array Slot} {j : Nat} {u : Value} (h : ls[j]? = some (.val u)) : (j, u) ∈ lvA ls := by
  unfold lvA
  rw [List.mem_filterMap]
  refine ⟨j, List.mem_range.mpr (Array.getElem?_eq_some_iff.mp h).1, ?_⟩
  rw [h]
theorem lvA_has {ws : va_W} {al : aL} {ls : Array Slot} (h : rL ws al ls nL) : lv_has ls nL (lvA ls) := by
  refine ⟨h.1, h.2.1, fun q hq => ?_⟩
  unfold lvA at hq
  rw [List.mem_filterMap] at hq
  obtain ⟨j, -, hj⟩ := hq
  split at hj
  · rename_i u hu
    cases hj
    exact hu
  · cases hj
theorem aCl_at {al : aL} {i j : Nat} {w : aV} (h : (aCl al i)[j]? = some (some w)) : al[j]? = some (some w) ∧ (j + 1 = i → a1 w = true) := by
  cases i with
  | zero => exact ⟨h, fun q => by omega⟩
  | succ k =>
    unfold aCl at h
    simp only at h
    split at h
    · rename_i x hx
      by_cases q : k = j
      · subst q
        rw [List.getElem?_set_self (List.getElem?_eq_some_iff.mp hx).1] at h
        cases h
      · rw [List.getElem?_set_ne q] at h
        exact ⟨h, fun z => by omega⟩
    · rename_i hx
      refine ⟨h, fun z => ?_⟩
      have z1 : j = k := by omega
      subst z1
      match w, h with
      | .inl x, _ => rfl
      | .inr (.inl x), h => exact absurd h (hx x)
      | .inr (.inr x), _ => rfl
theorem rL.st1 {ws : va_W} {al : aL} {ls ls' : Array Slot} {i : Nat} {v : aV} {u : Value} (hL : rL ws al ls nL) (hv : rV ws v u) (hi : i < nL) (h' : lv_has ls' nL ((i, u) :: (lvA ls).filter (fun q => !(q.1 == i) && !(q.1 + 1 == i && q.2.category == 2)))) : rL ws (aSt1 al i v) ls' nL := by
  refine ⟨h'.1, h'.2.1, fun j w hj => ?_⟩
  unfold aSt1 at hj
  by_cases q : i = j
  · subst q
    have hlt : i < (aCl al i).length := by
      have := (List.getElem?_eq_some_iff.mp hj).1
      rw [List.length_set] at this
      exact this
    rw [List.getElem?_set_self hlt] at hj
    cases hj
    exact ⟨hi, u, h'.2.2 (i, u) List.mem_cons_self, hv⟩
  · rw [List.getElem?_set_ne q] at hj
    obtain ⟨h1, h2⟩ := aCl_at hj
    obtain ⟨h3, x, h4, h5⟩ := hL.2.2 j w h1
    refine ⟨h3, x, h'.2.2 (j, x) (List.mem_cons_of_mem _ (List.mem_filter.mpr ⟨lvA_mem h4, ?_⟩)), h5⟩
    by_cases z : j + 1 = i
    · have := a1_cat h5 (h2 z)
      simp [this]
      omega
    · simp [z]
      omega
theorem rL.st2 {ws : va_W} {al : aL} {ls ls' : Array Slot} {i : Nat} {v : aV} {u : Value} (hL : rL ws al ls nL) (hv : rV ws v u) (hi : i < nL) (h' : lv_has ls' nL ((i, u) :: (lvA ls).filter (fun q => !(q.1 == i) && (!(q.1 == i + 1) && !(q.1 + 1 == i && q.2.category == 2))))) : rL ws (aSt2 al i v) ls' nL := by
  refine ⟨h'.1, h'.2.1, fun j w hj => ?_⟩
  unfold aSt2 at hj
  by_cases q2 : i + 1 = j
  · subst q2
    have hlt := (List.getElem?_eq_some_iff.mp hj).1
    rw [List.length_set] at hlt
    rw [List.getElem?_set_self hlt] at hj
    cases hj
  · rw [List.getElem?_set_ne q2] at hj
    by_cases q : i = j
    · subst q
      have hlt : i < (aCl al i).length := by
        have := (List.getElem?_eq_some_iff.mp hj).1
        rw [List.length_set] at this
        exact this
      rw [List.getElem?_set_self hlt] at hj
      cases hj
      exact ⟨hi, u, h'.2.2 (i, u) List.mem_cons_self, hv⟩
    · rw [List.getElem?_set_ne q] at hj
      obtain ⟨h1, h2⟩ := aCl_at hj
      obtain ⟨h3, x, h4, h5⟩ := hL.2.2 j w h1
      refine ⟨h3, x, h'.2.2 (j, x) (List.mem_cons_of_mem _ (List.mem_filter.mpr ⟨lvA_mem h4, ?_⟩)), h5⟩
      by_cases z : j + 1 = i
      · have := a1_cat h5 (h2 z)
        simp [this]
        omega
      · simp [z]
        omega
theorem s_istore_n {i : Nat} {j : Fin 4} (hd : decode cc pc = .ok (.istore_n j, 1)) (hj : (j : Nat) = i) (hn : i < nL) : SndF own cc nL ini pc (oStI (pc + 1) i) := by
  intro p l e R s m args below meth c D tys A H0 w0 Q hx f pc' f' hg k
  intro H locs cells slots ls st ws hP hD hS hX hH hL hs hc hk
  unfold oStI at hg
  split at hg
  · rename_i x r hi
    cases hg
    rw [hi] at hs
    obtain ⟨u, us, rfl, hv, hs⟩ := hs
    cases hv
    refine lv_istore_n hx.1 hx.2.1 hd hj (lvA_has hL) hn rfl (fun ls' h' => ?_)
    exact k H locs cells slots ls' us ws hP hD hS hX hH (hL.st1 rfl hn h') hs hc hk
  · cases hg
theorem s_istore {i : Nat} (hd : decode cc pc = .ok (.istore i, 2)) (hn : i < nL) : SndF own cc nL ini pc (oStI (pc + 2) i) := by
  intro p l e R s m args below meth c D tys A H0 w0 Q hx f pc' f' hg k
  intro H locs cells slots ls st ws hP hD hS hX hH hL hs hc hk
  unfold oStI at hg
  split at hg
  · rename_i x r hi
    cases hg
    rw [hi] at hs
    obtain ⟨u, us, rfl, hv, hs⟩ := hs
    cases hv
    refine lv_istore hx.1 hx.2.1 hd (lvA_has hL) hn rfl (fun ls' h' => ?_)
    exact k H locs cells slots ls' us ws hP hD hS hX hH (hL.st1 rfl hn h') hs hc hk
  · cases hg
theorem s_lstore_n {i : Nat} {j : Fin 4} (hd : decode cc pc = .ok (.lstore_n j, 1)) (hj : (j : Nat) = i) (hn : i + 1 < nL) : SndF own cc nL ini pc (oStJ (pc + 1) i) := by
  intro p l e R s m args below meth c D tys A H0 w0 Q hx f pc' f' hg k
  intro H locs cells slots ls st ws hP hD hS hX hH hL hs hc hk
  unfold oStJ at hg
  split at hg
  · rename_i x r hi
    cases hg
    rw [hi] at hs
    obtain ⟨u, us, rfl, hv, hs⟩ := hs
    cases hv
    refine lv_lstore_n hx.1 hx.2.1 hd hj (lvA_has hL) hn rfl (fun ls' h' => ?_)
    exact k H locs cells slots ls' us ws hP hD hS hX hH (hL.st2 rfl (by omega) h') hs hc hk
  · cases hg
theorem s_lstore {i : Nat} (hd : decode cc pc = .ok (.lstore i, 2)) (hn : i + 1 < nL) : SndF own cc nL ini pc (oStJ (pc + 2) i) := by
  intro p l e R s m args below meth c D tys A H0 w0 Q hx f pc' f' hg k
  intro H locs cells slots ls st ws hP hD hS hX hH hL hs hc hk
  unfold oStJ at hg
  split at hg
  · rename_i x r hi
    cases hg
    rw [hi] at hs
    obtain ⟨u, us, rfl, hv, hs⟩ := hs
    cases hv
    refine lv_lstore hx.1 hx.2.1 hd (lvA_has hL) hn rfl (fun ls' h' => ?_)
    exact k H locs cells slots ls' us ws hP hD hS hX hH (hL.st2 rfl (by omega) h') hs hc hk
  · cases hg
theorem lx_astoreN {p : Program} {l : Launch} {e : Env} {R : Room} {s : State} {m : MethodId} {args : Array Value} {below : List Frame} {meth : Method} {c : Code} {H : Heap} {locs : List Loc} {cells slots : Nat} {Q : State → Prop} {ls : Array Slot} {rest : List Value} {nL : Nat} (hexec : p.tables.exec = Jvm.exec) (hb : c.code = cc) {i : Nat} {j : Fin 4} {lv lv' : List (Nat × Value)} (hdg : decode cc pc = .ok (.astore_n j, 1)) (hj : (j : Nat) = i) (h : lv_has ls nL lv) (hn : i < nL) (hl : (i, Value.null) :: lv.filter (fun q => !(q.1 == i) && !(q.1 + 1 == i && q.2.category == 2)) = lv')
    (kk : ∀ ls' : Array Slot, lv_has ls' nL lv' → W p l e R s m args below meth c H locs cells slots Q (F0 m (pc + 1) ls' rest)) : W p l e R s m args below meth c H locs cells slots Q (F0 m pc ls (.null :: rest)) := by
  subst hj
  subst hl
  obtain ⟨ls', h1, h2⟩ := lv_store1 h hn (v := Value.null) rfl
  intro T hT X
  obtain ⟨t, a, b⟩ := kk ls' h2 T hT X
  refine ⟨t, ?_, b⟩
  jvm_step X.here [X.here.top, hexec, hb, hdg, h1, Value.isRef]
  exact a
theorem lx_astoreM {p : Program} {l : Launch} {e : Env} {R : Room} {s : State} {m : MethodId} {args : Array Value} {below : List Frame} {meth : Method} {c : Code} {H : Heap} {locs : List Loc} {cells slots : Nat} {Q : State → Prop} {ls : Array Slot} {rest : List Value} {nL : Nat} (hexec : p.tables.exec = Jvm.exec) (hb : c.code = cc) {i : Nat}  {lv lv' : List (Nat × Value)} (hdg : decode cc pc = .ok (.astore i, 2)) (h : lv_has ls nL lv) (hn : i < nL) (hl : (i, Value.null) :: lv.filter (fun q => !(q.1 == i) && !(q.1 + 1 == i && q.2.category == 2)) = lv')
    (kk : ∀ ls' : Array Slot, lv_has ls' nL lv' → W p l e R s m args below meth c H locs cells slots Q (F0 m (pc + 2) ls' rest)) : W p l e R s m args below meth c H locs cells slots Q (F0 m pc ls (.null :: rest)) := by
  skip
  subst hl
  obtain ⟨ls', h1, h2⟩ := lv_store1 h hn (v := Value.null) rfl
  intro T hT X
  obtain ⟨t, a, b⟩ := kk ls' h2 T hT X
  refine ⟨t, ?_, b⟩
  jvm_step X.here [X.here.top, hexec, hb, hdg, h1, Value.isRef]
  exact a
theorem s_astore_n {i : Nat} {j : Fin 4} (hd : decode cc pc = .ok (.astore_n j, 1)) (hj : (j : Nat) = i) (hn : i < nL) : SndF own cc nL ini pc (oStA (pc + 1) i) := by
  intro p l e R s m args below meth c D tys A H0 w0 Q hx f pc' f' hg k
  intro H locs cells slots ls st ws hP hD hS hX hH hL hs hc hk
  unfold oStA at hg
  split at hg
  · rename_i x r hi
    cases hg
    rw [hi] at hs
    obtain ⟨u, us, rfl, hv, hs⟩ := hs
    cases x with
    | none =>
      cases hv
      refine lx_astoreN hx.1 hx.2.1 hd hj (lvA_has hL) hn rfl (fun ls' h' => ?_)
      exact k H locs cells slots ls' us ws hP hD hS hX hH (hL.st1 rfl hn h') hs hc hk
    | some y =>
      obtain ⟨a, e2, h3, rfl⟩ := hv
      refine lv_astore_n hx.1 hx.2.1 hd hj (lvA_has hL) hn rfl (fun ls' h' => ?_)
      exact k H locs cells slots ls' us ws hP hD hS hX hH (hL.st1 ⟨a, e2, h3, rfl⟩ hn h') hs hc hk
  · cases hg
theorem s_astore {i : Nat} (hd : decode cc pc = .ok (.astore i, 2)) (hn : i < nL) : SndF own cc nL ini pc (oStA (pc + 2) i) := by
  intro p l e R s m args below meth c D tys A H0 w0 Q hx f pc' f' hg k
  intro H locs cells slots ls st ws hP hD hS hX hH hL hs hc hk
  unfold oStA at hg
  split at hg
  · rename_i x r hi
    cases hg
    rw [hi] at hs
    obtain ⟨u, us, rfl, hv, hs⟩ := hs
    cases x with
    | none =>
      cases hv
      refine lx_astoreM hx.1 hx.2.1 hd (lvA_has hL) hn rfl (fun ls' h' => ?_)
      exact k H locs cells slots ls' us ws hP hD hS hX hH (hL.st1 rfl hn h') hs hc hk
    | some y =>
      obtain ⟨a, e2, h3, rfl⟩ := hv
      refine lv_astore hx.1 hx.2.1 hd (lvA_has hL) hn rfl (fun ls' h' => ?_)
      exact k H locs cells slots ls' us ws hP hD hS hX hH (hL.st1 ⟨a, e2, h3, rfl⟩ hn h') hs hc hk
  · cases hg
theorem s_iinc {i : Nat} {n : Int} {d : Int32} (hd : decode cc pc = .ok (.iinc i n, 3)) (hv : Int32.ofInt n = d) (hn : i < nL) : SndF own cc nL ini pc (oInc (pc + 3) i d) := by
  intro p l e R s m args below meth c D tys A H0 w0 Q hx f pc' f' hg k
  intro H locs cells slots ls st ws hP hD hS hX hH hL hs hc hk
  unfold oInc at hg
  split at hg
  · rename_i x hi
    cases hg
    obtain ⟨-, u, h1, h2⟩ := hL.2.2 _ _ hi
    cases h2
    obtain ⟨q, hq⟩ := List.getElem?_of_mem (lvA_mem h1)
    refine lv_iinc hx.1 hx.2.1 hd (lvA_has hL) hq (by rw [hv]) hn rfl (fun ls' h' => ?_)
    exact k H locs cells slots ls' st ws hP hD hS hX hH (hL.st1 rfl hn h') hs hc hk
  · cases hg
theorem s_iadd  (hd : decode cc pc = .ok (.iadd, 1)) : SndF own cc nL ini pc (oBin (pc + 1) (fun x y => x + y)) := by
  intro p l e R s m args below meth c D tys A H0 w0 Q hx f pc' f' hg k
  intro H locs cells slots ls st ws hP hD hS hX hH hL hs hc hk
  unfold oBin at hg
  split at hg
  · rename_i y x r hi
    cases hg
    rw [hi] at hs
    obtain ⟨u, us, rfl, hv, hs⟩ := hs
    obtain ⟨u2, us, rfl, hv2, hs⟩ := hs
    cases hv
    cases hv2
    refine lv_iadd hx.1 hx.2.1 hd ?_
    exact k H locs cells slots ls _ ws hP hD hS hX hH hL ⟨_, us, rfl, rfl, hs⟩ hc hk
  · cases hg
theorem s_isub  (hd : decode cc pc = .ok (.isub, 1)) : SndF own cc nL ini pc (oBin (pc + 1) (fun x y => x - y)) := by
  intro p l e R s m args below meth c D tys A H0 w0 Q hx f pc' f' hg k
  intro H locs cells slots ls st ws hP hD hS hX hH hL hs hc hk
  unfold oBin at hg
  split at hg
  · rename_i y x r hi
    cases hg
    rw [hi] at hs
    obtain ⟨u, us, rfl, hv, hs⟩ := hs
    obtain ⟨u2, us, rfl, hv2, hs⟩ := hs
    cases hv
    cases hv2
    refine lv_isub hx.1 hx.2.1 hd ?_
    exact k H locs cells slots ls _ ws hP hD hS hX hH hL ⟨_, us, rfl, rfl, hs⟩ hc hk
  · cases hg
theorem s_imul  (hd : decode cc pc = .ok (.imul, 1)) : SndF own cc nL ini pc (oBin (pc + 1) (fun x y => x * y)) := by
  intro p l e R s m args below meth c D tys A H0 w0 Q hx f pc' f' hg k
  intro H locs cells slots ls st ws hP hD hS hX hH hL hs hc hk
  unfold oBin at hg
  split at hg
  · rename_i y x r hi
    cases hg
    rw [hi] at hs
    obtain ⟨u, us, rfl, hv, hs⟩ := hs
    obtain ⟨u2, us, rfl, hv2, hs⟩ := hs
    cases hv
    cases hv2
    refine lv_imul hx.1 hx.2.1 hd ?_
    exact k H locs cells slots ls _ ws hP hD hS hX hH hL ⟨_, us, rfl, rfl, hs⟩ hc hk
  · cases hg
theorem s_iand  (hd : decode cc pc = .ok (.iand, 1)) : SndF own cc nL ini pc (oBin (pc + 1) (fun x y => x &&& y)) := by
  intro p l e R s m args below meth c D tys A H0 w0 Q hx f pc' f' hg k
  intro H locs cells slots ls st ws hP hD hS hX hH hL hs hc hk
  unfold oBin at hg
  split at hg
  · rename_i y x r hi
    cases hg
    rw [hi] at hs
    obtain ⟨u, us, rfl, hv, hs⟩ := hs
    obtain ⟨u2, us, rfl, hv2, hs⟩ := hs
    cases hv
    cases hv2
    refine lv_iand hx.1 hx.2.1 hd ?_
    exact k H locs cells slots ls _ ws hP hD hS hX hH hL ⟨_, us, rfl, rfl, hs⟩ hc hk
  · cases hg
theorem s_ior  (hd : decode cc pc = .ok (.ior, 1)) : SndF own cc nL ini pc (oBin (pc + 1) (fun x y => x ||| y)) := by
  intro p l e R s m args below meth c D tys A H0 w0 Q hx f pc' f' hg k
  intro H locs cells slots ls st ws hP hD hS hX hH hL hs hc hk
  unfold oBin at hg
  split at hg
  · rename_i y x r hi
    cases hg
    rw [hi] at hs
    obtain ⟨u, us, rfl, hv, hs⟩ := hs
    obtain ⟨u2, us, rfl, hv2, hs⟩ := hs
    cases hv
    cases hv2
    refine lv_ior hx.1 hx.2.1 hd ?_
    exact k H locs cells slots ls _ ws hP hD hS hX hH hL ⟨_, us, rfl, rfl, hs⟩ hc hk
  · cases hg
theorem s_ixor  (hd : decode cc pc = .ok (.ixor, 1)) : SndF own cc nL ini pc (oBin (pc + 1) (fun x y => x ^^^ y)) := by
  intro p l e R s m args below meth c D tys A H0 w0 Q hx f pc' f' hg k
  intro H locs cells slots ls st ws hP hD hS hX hH hL hs hc hk
  unfold oBin at hg
  split at hg
  · rename_i y x r hi
    cases hg
    rw [hi] at hs
    obtain ⟨u, us, rfl, hv, hs⟩ := hs
    obtain ⟨u2, us, rfl, hv2, hs⟩ := hs
    cases hv
    cases hv2
    refine lv_ixor hx.1 hx.2.1 hd ?_
    exact k H locs cells slots ls _ ws hP hD hS hX hH hL ⟨_, us, rfl, rfl, hs⟩ hc hk
  · cases hg
theorem s_ishl  (hd : decode cc pc = .ok (.ishl, 1)) : SndF own cc nL ini pc (oBin (pc + 1) (fun x y => x <<< (y &&& 31))) := by
  intro p l e R s m args below meth c D tys A H0 w0 Q hx f pc' f' hg k
  intro H locs cells slots ls st ws hP hD hS hX hH hL hs hc hk
  unfold oBin at hg
  split at hg
  · rename_i y x r hi
    cases hg
    rw [hi] at hs
    obtain ⟨u, us, rfl, hv, hs⟩ := hs
    obtain ⟨u2, us, rfl, hv2, hs⟩ := hs
    cases hv
    cases hv2
    refine lv_ishl hx.1 hx.2.1 hd ?_
    exact k H locs cells slots ls _ ws hP hD hS hX hH hL ⟨_, us, rfl, rfl, hs⟩ hc hk
  · cases hg
theorem s_ishr  (hd : decode cc pc = .ok (.ishr, 1)) : SndF own cc nL ini pc (oBin (pc + 1) (fun x y => x >>> (y &&& 31))) := by
  intro p l e R s m args below meth c D tys A H0 w0 Q hx f pc' f' hg k
  intro H locs cells slots ls st ws hP hD hS hX hH hL hs hc hk
  unfold oBin at hg
  split at hg
  · rename_i y x r hi
    cases hg
    rw [hi] at hs
    obtain ⟨u, us, rfl, hv, hs⟩ := hs
    obtain ⟨u2, us, rfl, hv2, hs⟩ := hs
    cases hv
    cases hv2
    refine lv_ishr hx.1 hx.2.1 hd ?_
    exact k H locs cells slots ls _ ws hP hD hS hX hH hL ⟨_, us, rfl, rfl, hs⟩ hc hk
  · cases hg
theorem s_iushr  (hd : decode cc pc = .ok (.iushr, 1)) : SndF own cc nL ini pc (oBin (pc + 1) (fun x y => (x.toUInt32 >>> (y.toUInt32 &&& Int32.toUInt32 31)).toInt32)) := by
  intro p l e R s m args below meth c D tys A H0 w0 Q hx f pc' f' hg k
  intro H locs cells slots ls st ws hP hD hS hX hH hL hs hc hk
  unfold oBin at hg
  split at hg
  · rename_i y x r hi
    cases hg
    rw [hi] at hs
    obtain ⟨u, us, rfl, hv, hs⟩ := hs
    obtain ⟨u2, us, rfl, hv2, hs⟩ := hs
    cases hv
    cases hv2
    refine lv_iushr hx.1 hx.2.1 hd rfl ?_
    exact k H locs cells slots ls _ ws hP hD hS hX hH hL ⟨_, us, rfl, rfl, hs⟩ hc hk
  · cases hg
theorem s_ladd  (hd : decode cc pc = .ok (.ladd, 1)) : SndF own cc nL ini pc (oBinJ (pc + 1) (fun x y => x + y)) := by
  intro p l e R s m args below meth c D tys A H0 w0 Q hx f pc' f' hg k
  intro H locs cells slots ls st ws hP hD hS hX hH hL hs hc hk
  unfold oBinJ at hg
  split at hg
  · rename_i y x r hi
    cases hg
    rw [hi] at hs
    obtain ⟨u, us, rfl, hv, hs⟩ := hs
    obtain ⟨u2, us, rfl, hv2, hs⟩ := hs
    cases hv
    cases hv2
    refine lv_ladd hx.1 hx.2.1 hd ?_
    exact k H locs cells slots ls _ ws hP hD hS hX hH hL ⟨_, us, rfl, rfl, hs⟩ hc hk
  · cases hg
theorem s_lsub  (hd : decode cc pc = .ok (.lsub, 1)) : SndF own cc nL ini pc (oBinJ (pc + 1) (fun x y => x - y)) := by
  intro p l e R s m args below meth c D tys A H0 w0 Q hx f pc' f' hg k
  intro H locs cells slots ls st ws hP hD hS hX hH hL hs hc hk
  unfold oBinJ at hg
  split at hg
  · rename_i y x r hi
    cases hg
    rw [hi] at hs
    obtain ⟨u, us, rfl, hv, hs⟩ := hs
    obtain ⟨u2, us, rfl, hv2, hs⟩ := hs
    cases hv
    cases hv2
    refine lv_lsub hx.1 hx.2.1 hd ?_
    exact k H locs cells slots ls _ ws hP hD hS hX hH hL ⟨_, us, rfl, rfl, hs⟩ hc hk
  · cases hg
theorem s_land  (hd : decode cc pc = .ok (.land, 1)) : SndF own cc nL ini pc (oBinJ (pc + 1) (fun x y => x &&& y)) := by
  intro p l e R s m args below meth c D tys A H0 w0 Q hx f pc' f' hg k
  intro H locs cells slots ls st ws hP hD hS hX hH hL hs hc hk
  unfold oBinJ at hg
  split at hg
  · rename_i y x r hi
    cases hg
    rw [hi] at hs
    obtain ⟨u, us, rfl, hv, hs⟩ := hs
    obtain ⟨u2, us, rfl, hv2, hs⟩ := hs
    cases hv
    cases hv2
    refine lv_land hx.1 hx.2.1 hd ?_
    exact k H locs cells slots ls _ ws hP hD hS hX hH hL ⟨_, us, rfl, rfl, hs⟩ hc hk
  · cases hg
theorem s_lor  (hd : decode cc pc = .ok (.lor, 1)) : SndF own cc nL ini pc (oBinJ (pc + 1) (fun x y => x ||| y)) := by
  intro p l e R s m args below meth c D tys A H0 w0 Q hx f pc' f' hg k
  intro H locs cells slots ls st ws hP hD hS hX hH hL hs hc hk
  unfold oBinJ at hg
  split at hg
  · rename_i y x r hi
    cases hg
    rw [hi] at hs
    obtain ⟨u, us, rfl, hv, hs⟩ := hs
    obtain ⟨u2, us, rfl, hv2, hs⟩ := hs
    cases hv
    cases hv2
    refine lv_lor hx.1 hx.2.1 hd ?_
    exact k H locs cells slots ls _ ws hP hD hS hX hH hL ⟨_, us, rfl, rfl, hs⟩ hc hk
  · cases hg
theorem s_lcmp  (hd : decode cc pc = .ok (.lcmp, 1)) : SndF own cc nL ini pc (oCmpJ (pc + 1) lg_cmp) := by
  intro p l e R s m args below meth c D tys A H0 w0 Q hx f pc' f' hg k
  intro H locs cells slots ls st ws hP hD hS hX hH hL hs hc hk
  unfold oCmpJ at hg
  split at hg
  · rename_i y x r hi
    cases hg
    rw [hi] at hs
    obtain ⟨u, us, rfl, hv, hs⟩ := hs
    obtain ⟨u2, us, rfl, hv2, hs⟩ := hs
    cases hv
    cases hv2
    refine W.lcmp hx.1 hx.2.1 hd ?_
    exact k H locs cells slots ls _ ws hP hD hS hX hH hL ⟨_, us, rfl, rfl, hs⟩ hc hk
  · cases hg
theorem s_lshl  (hd : decode cc pc = .ok (.lshl, 1)) : SndF own cc nL ini pc (oShJ (pc + 1) (fun x y => x <<< (y.toInt64 &&& 63))) := by
  intro p l e R s m args below meth c D tys A H0 w0 Q hx f pc' f' hg k
  intro H locs cells slots ls st ws hP hD hS hX hH hL hs hc hk
  unfold oShJ at hg
  split at hg
  · rename_i y x r hi
    cases hg
    rw [hi] at hs
    obtain ⟨u, us, rfl, hv, hs⟩ := hs
    obtain ⟨u2, us, rfl, hv2, hs⟩ := hs
    cases hv
    cases hv2
    refine lv_lshl hx.1 hx.2.1 hd rfl ?_
    exact k H locs cells slots ls _ ws hP hD hS hX hH hL ⟨_, us, rfl, rfl, hs⟩ hc hk
  · cases hg
theorem s_lshr  (hd : decode cc pc = .ok (.lshr, 1)) : SndF own cc nL ini pc (oShJ (pc + 1) (fun x y => x >>> (y.toInt64 &&& 63))) := by
  intro p l e R s m args below meth c D tys A H0 w0 Q hx f pc' f' hg k
  intro H locs cells slots ls st ws hP hD hS hX hH hL hs hc hk
  unfold oShJ at hg
  split at hg
  · rename_i y x r hi
    cases hg
    rw [hi] at hs
    obtain ⟨u, us, rfl, hv, hs⟩ := hs
    obtain ⟨u2, us, rfl, hv2, hs⟩ := hs
    cases hv
    cases hv2
    refine lv_lshr hx.1 hx.2.1 hd rfl ?_
    exact k H locs cells slots ls _ ws hP hD hS hX hH hL ⟨_, us, rfl, rfl, hs⟩ hc hk
  · cases hg
theorem s_lushr  (hd : decode cc pc = .ok (.lushr, 1)) : SndF own cc nL ini pc (oShJ (pc + 1) (fun x y => (x.toUInt64 >>> (y.toInt64.toUInt64 &&& Int64.toUInt64 63)).toInt64)) := by
  intro p l e R s m args below meth c D tys A H0 w0 Q hx f pc' f' hg k
  intro H locs cells slots ls st ws hP hD hS hX hH hL hs hc hk
  unfold oShJ at hg
  split at hg
  · rename_i y x r hi
    cases hg
    rw [hi] at hs
    obtain ⟨u, us, rfl, hv, hs⟩ := hs
    obtain ⟨u2, us, rfl, hv2, hs⟩ := hs
    cases hv
    cases hv2
    refine lv_lushr hx.1 hx.2.1 hd rfl ?_
    exact k H locs cells slots ls _ ws hP hD hS hX hH hL ⟨_, us, rfl, rfl, hs⟩ hc hk
  · cases hg
theorem s_idiv (hd : decode cc pc = .ok (.idiv, 1)) : SndF own cc nL ini pc (oDiv (pc + 1) (fun x y => x / y)) := by
  intro p l e R s m args below meth c D tys A H0 w0 Q hx f pc' f' hg k
  intro H locs cells slots ls st ws hP hD hS hX hH hL hs hc hk
  unfold oDiv at hg
  split at hg
  · rename_i y x r hi
    split at hg
    · cases hg
    · rename_i hne
      cases hg
      rw [hi] at hs
      obtain ⟨u, us, rfl, hv, hs⟩ := hs
      obtain ⟨u2, us, rfl, hv2, hs⟩ := hs
      cases hv
      cases hv2
      refine lv_idiv hx.1 hx.2.1 hd hne ?_
      exact k H locs cells slots ls _ ws hP hD hS hX hH hL ⟨_, us, rfl, rfl, hs⟩ hc hk
  · cases hg
theorem s_irem (hd : decode cc pc = .ok (.irem, 1)) : SndF own cc nL ini pc (oDiv (pc + 1) (fun x y => x - x / y * y)) := by
  intro p l e R s m args below meth c D tys A H0 w0 Q hx f pc' f' hg k
  intro H locs cells slots ls st ws hP hD hS hX hH hL hs hc hk
  unfold oDiv at hg
  split at hg
  · rename_i y x r hi
    split at hg
    · cases hg
    · rename_i hne
      cases hg
      rw [hi] at hs
      obtain ⟨u, us, rfl, hv, hs⟩ := hs
      obtain ⟨u2, us, rfl, hv2, hs⟩ := hs
      cases hv
      cases hv2
      refine lv_irem hx.1 hx.2.1 hd hne ?_
      exact k H locs cells slots ls _ ws hP hD hS hX hH hL ⟨_, us, rfl, rfl, hs⟩ hc hk
  · cases hg
theorem s_ineg  (hd : decode cc pc = .ok (.ineg, 1)) : SndF own cc nL ini pc (oUn (pc + 1) (fun x => -x)) := by
  intro p l e R s m args below meth c D tys A H0 w0 Q hx f pc' f' hg k
  intro H locs cells slots ls st ws hP hD hS hX hH hL hs hc hk
  unfold oUn at hg
  split at hg
  · rename_i x r hi
    cases hg
    rw [hi] at hs
    obtain ⟨u, us, rfl, hv, hs⟩ := hs
    cases hv
    refine lv_ineg hx.1 hx.2.1 hd ?_
    exact k H locs cells slots ls _ ws hP hD hS hX hH hL ⟨_, us, rfl, rfl, hs⟩ hc hk
  · cases hg
theorem s_i2b  (hd : decode cc pc = .ok (.i2b, 1)) : SndF own cc nL ini pc (oUn (pc + 1) (fun x => x.toInt8.toInt32)) := by
  intro p l e R s m args below meth c D tys A H0 w0 Q hx f pc' f' hg k
  intro H locs cells slots ls st ws hP hD hS hX hH hL hs hc hk
  unfold oUn at hg
  split at hg
  · rename_i x r hi
    cases hg
    rw [hi] at hs
    obtain ⟨u, us, rfl, hv, hs⟩ := hs
    cases hv
    refine lv_i2b hx.1 hx.2.1 hd rfl ?_
    exact k H locs cells slots ls _ ws hP hD hS hX hH hL ⟨_, us, rfl, rfl, hs⟩ hc hk
  · cases hg
theorem s_i2s  (hd : decode cc pc = .ok (.i2s, 1)) : SndF own cc nL ini pc (oUn (pc + 1) (fun x => x.toInt16.toInt32)) := by
  intro p l e R s m args below meth c D tys A H0 w0 Q hx f pc' f' hg k
  intro H locs cells slots ls st ws hP hD hS hX hH hL hs hc hk
  unfold oUn at hg
  split at hg
  · rename_i x r hi
    cases hg
    rw [hi] at hs
    obtain ⟨u, us, rfl, hv, hs⟩ := hs
    cases hv
    refine lv_i2s hx.1 hx.2.1 hd rfl ?_
    exact k H locs cells slots ls _ ws hP hD hS hX hH hL ⟨_, us, rfl, rfl, hs⟩ hc hk
  · cases hg
theorem s_i2c  (hd : decode cc pc = .ok (.i2c, 1)) : SndF own cc nL ini pc (oUn (pc + 1) (fun x => (x.toUInt32 % 65536).toInt32)) := by
  intro p l e R s m args below meth c D tys A H0 w0 Q hx f pc' f' hg k
  intro H locs cells slots ls st ws hP hD hS hX hH hL hs hc hk
  unfold oUn at hg
  split at hg
  · rename_i x r hi
    cases hg
    rw [hi] at hs
    obtain ⟨u, us, rfl, hv, hs⟩ := hs
    cases hv
    refine lv_i2c hx.1 hx.2.1 hd rfl ?_
    exact k H locs cells slots ls _ ws hP hD hS hX hH hL ⟨_, us, rfl, rfl, hs⟩ hc hk
  · cases hg
theorem s_i2l  (hd : decode cc pc = .ok (.i2l, 1)) : SndF own cc nL ini pc (oI2L (pc + 1)) := by
  intro p l e R s m args below meth c D tys A H0 w0 Q hx f pc' f' hg k
  intro H locs cells slots ls st ws hP hD hS hX hH hL hs hc hk
  unfold oI2L at hg
  split at hg
  · rename_i x r hi
    cases hg
    rw [hi] at hs
    obtain ⟨u, us, rfl, hv, hs⟩ := hs
    cases hv
    refine lv_i2l hx.1 hx.2.1 hd rfl ?_
    exact k H locs cells slots ls _ ws hP hD hS hX hH hL ⟨_, us, rfl, rfl, hs⟩ hc hk
  · cases hg
theorem s_l2i  (hd : decode cc pc = .ok (.l2i, 1)) : SndF own cc nL ini pc (oL2I (pc + 1)) := by
  intro p l e R s m args below meth c D tys A H0 w0 Q hx f pc' f' hg k
  intro H locs cells slots ls st ws hP hD hS hX hH hL hs hc hk
  unfold oL2I at hg
  split at hg
  · rename_i x r hi
    cases hg
    rw [hi] at hs
    obtain ⟨u, us, rfl, hv, hs⟩ := hs
    cases hv
    refine lv_l2i hx.1 hx.2.1 hd rfl ?_
    exact k H locs cells slots ls _ ws hP hD hS hX hH hL ⟨_, us, rfl, rfl, hs⟩ hc hk
  · cases hg
theorem s_if_eq {t : Nat} {off : Int} (hd : decode cc pc = .ok (.ifCond .eq off, 3)) (ht : (pc : Int) + off = (t : Int)) : SndF own cc nL ini pc (oIf1 t (pc + 3) (fun x => decide (x = 0))) := by
  intro p l e R s m args below meth c D tys A H0 w0 Q hx f pc' f' hg k
  intro H locs cells slots ls st ws hP hD hS hX hH hL hs hc hk
  unfold oIf1 at hg
  split at hg
  · rename_i x r hi
    cases hg
    rw [hi] at hs
    obtain ⟨u, us, rfl, hv, hs⟩ := hs
    cases hv
    refine lv_if_eq hx.1 hx.2.1 hd ht (fun q => ?_) (fun q => ?_)
    · have q : (x = 0) := q
      dsimp only at k
      rw [decide_eq_true q] at k
      exact k H locs cells slots ls _ ws hP hD hS hX hH hL hs hc hk
    · have q : ¬ (x = 0) := q
      dsimp only at k
      rw [decide_eq_false q] at k
      exact k H locs cells slots ls _ ws hP hD hS hX hH hL hs hc hk
  · cases hg
theorem s_icmp_eq {t : Nat} {off : Int} (hd : decode cc pc = .ok (.if_icmp .eq off, 3)) (ht : (pc : Int) + off = (t : Int)) : SndF own cc nL ini pc (oIf2 t (pc + 3) (fun x y => decide (x = y))) := by
  intro p l e R s m args below meth c D tys A H0 w0 Q hx f pc' f' hg k
  intro H locs cells slots ls st ws hP hD hS hX hH hL hs hc hk
  unfold oIf2 at hg
  split at hg
  · rename_i y x r hi
    cases hg
    rw [hi] at hs
    obtain ⟨u, us, rfl, hv, hs⟩ := hs
    obtain ⟨u2, us, rfl, hv2, hs⟩ := hs
    cases hv
    cases hv2
    refine lv_icmp_eq hx.1 hx.2.1 hd ht (fun q => ?_) (fun q => ?_)
    · have q : (x = y) := q
      dsimp only at k
      rw [decide_eq_true q] at k
      exact k H locs cells slots ls _ ws hP hD hS hX hH hL hs hc hk
    · have q : ¬ (x = y) := q
      dsimp only at k
      rw [decide_eq_false q] at k
      exact k H locs cells slots ls _ ws hP hD hS hX hH hL hs hc hk
  · cases hg
theorem s_if_ne {t : Nat} {off : Int} (hd : decode cc pc = .ok (.ifCond .ne off, 3)) (ht : (pc : Int) + off = (t : Int)) : SndF own cc nL ini pc (oIf1 t (pc + 3) (fun x => decide (x ≠ 0))) := by
  intro p l e R s m args below meth c D tys A H0 w0 Q hx f pc' f' hg k
  intro H locs cells slots ls st ws hP hD hS hX hH hL hs hc hk
  unfold oIf1 at hg
  split at hg
  · rename_i x r hi
    cases hg
    rw [hi] at hs
    obtain ⟨u, us, rfl, hv, hs⟩ := hs
    cases hv
    refine lv_if_ne hx.1 hx.2.1 hd ht (fun q => ?_) (fun q => ?_)
    · have q : (x ≠ 0) := q
      dsimp only at k
      rw [decide_eq_true q] at k
      exact k H locs cells slots ls _ ws hP hD hS hX hH hL hs hc hk
    · have q : ¬ (x ≠ 0) := fun z => z q
      dsimp only at k
      rw [decide_eq_false q] at k
      exact k H locs cells slots ls _ ws hP hD hS hX hH hL hs hc hk
  · cases hg
theorem s_icmp_ne {t : Nat} {off : Int} (hd : decode cc pc = .ok (.if_icmp .ne off, 3)) (ht : (pc : Int) + off = (t : Int)) : SndF own cc nL ini pc (oIf2 t (pc + 3) (fun x y => decide (x ≠ y))) := by
  intro p l e R s m args below meth c D tys A H0 w0 Q hx f pc' f' hg k
  intro H locs cells slots ls st ws hP hD hS hX hH hL hs hc hk
  unfold oIf2 at hg
  split at hg
  · rename_i y x r hi
    cases hg
    rw [hi] at hs
    obtain ⟨u, us, rfl, hv, hs⟩ := hs
    obtain ⟨u2, us, rfl, hv2, hs⟩ := hs
    cases hv
    cases hv2
    refine lv_icmp_ne hx.1 hx.2.1 hd ht (fun q => ?_) (fun q => ?_)
    · have q : (x ≠ y) := q
      dsimp only at k
      rw [decide_eq_true q] at k
      exact k H locs cells slots ls _ ws hP hD hS hX hH hL hs hc hk
    · have q : ¬ (x ≠ y) := fun z => z q
      dsimp only at k
      rw [decide_eq_false q] at k
      exact k H locs cells slots ls _ ws hP hD hS hX hH hL hs hc hk
  · cases hg
theorem s_if_lt {t : Nat} {off : Int} (hd : decode cc pc = .ok (.ifCond .lt off, 3)) (ht : (pc : Int) + off = (t : Int)) : SndF own cc nL ini pc (oIf1 t (pc + 3) (fun x => decide (x < 0))) := by
  intro p l e R s m args below meth c D tys A H0 w0 Q hx f pc' f' hg k
  intro H locs cells slots ls st ws hP hD hS hX hH hL hs hc hk
  unfold oIf1 at hg
  split at hg
  · rename_i x r hi
    cases hg
    rw [hi] at hs
    obtain ⟨u, us, rfl, hv, hs⟩ := hs
    cases hv
    refine lv_if_lt hx.1 hx.2.1 hd ht (fun q => ?_) (fun q => ?_)
    · have q : (x < 0) := q
      dsimp only at k
      rw [decide_eq_true q] at k
      exact k H locs cells slots ls _ ws hP hD hS hX hH hL hs hc hk
    · have q : ¬ (x < 0) := q
      dsimp only at k
      rw [decide_eq_false q] at k
      exact k H locs cells slots ls _ ws hP hD hS hX hH hL hs hc hk
  · cases hg
theorem s_icmp_lt {t : Nat} {off : Int} (hd : decode cc pc = .ok (.if_icmp .lt off, 3)) (ht : (pc : Int) + off = (t : Int)) : SndF own cc nL ini pc (oIf2 t (pc + 3) (fun x y => decide (x < y))) := by
  intro p l e R s m args below meth c D tys A H0 w0 Q hx f pc' f' hg k
  intro H locs cells slots ls st ws hP hD hS hX hH hL hs hc hk
  unfold oIf2 at hg
  split at hg
  · rename_i y x r hi
    cases hg
    rw [hi] at hs
    obtain ⟨u, us, rfl, hv, hs⟩ := hs
    obtain ⟨u2, us, rfl, hv2, hs⟩ := hs
    cases hv
    cases hv2
    refine lv_icmp_lt hx.1 hx.2.1 hd ht (fun q => ?_) (fun q => ?_)
    · have q : (x < y) := q
      dsimp only at k
      rw [decide_eq_true q] at k
      exact k H locs cells slots ls _ ws hP hD hS hX hH hL hs hc hk
    · have q : ¬ (x < y) := q
      dsimp only at k
      rw [decide_eq_false q] at k
      exact k H locs cells slots ls _ ws hP hD hS hX hH hL hs hc hk
  · cases hg
theorem s_if_ge {t : Nat} {off : Int} (hd : decode cc pc = .ok (.ifCond .ge off, 3)) (ht : (pc : Int) + off = (t : Int)) : SndF own cc nL ini pc (oIf1 t (pc + 3) (fun x => decide (0 ≤ x))) := by
  intro p l e R s m args below meth c D tys A H0 w0 Q hx f pc' f' hg k
  intro H locs cells slots ls st ws hP hD hS hX hH hL hs hc hk
  unfold oIf1 at hg
  split at hg
  · rename_i x r hi
    cases hg
    rw [hi] at hs
    obtain ⟨u, us, rfl, hv, hs⟩ := hs
    cases hv
    refine lv_if_ge hx.1 hx.2.1 hd ht (fun q => ?_) (fun q => ?_)
    · have q : (0 ≤ x) := q
      dsimp only at k
      rw [decide_eq_true q] at k
      exact k H locs cells slots ls _ ws hP hD hS hX hH hL hs hc hk
    · have q : ¬ (0 ≤ x) := q
      dsimp only at k
      rw [decide_eq_false q] at k
      exact k H locs cells slots ls _ ws hP hD hS hX hH hL hs hc hk
  · cases hg
theorem s_icmp_ge {t : Nat} {off : Int} (hd : decode cc pc = .ok (.if_icmp .ge off, 3)) (ht : (pc : Int) + off = (t : Int)) : SndF own cc nL ini pc (oIf2 t (pc + 3) (fun x y => decide (y ≤ x))) := by
  intro p l e R s m args below meth c D tys A H0 w0 Q hx f pc' f' hg k
  intro H locs cells slots ls st ws hP hD hS hX hH hL hs hc hk
  unfold oIf2 at hg
  split at hg
  · rename_i y x r hi
    cases hg
    rw [hi] at hs
    obtain ⟨u, us, rfl, hv, hs⟩ := hs
    obtain ⟨u2, us, rfl, hv2, hs⟩ := hs
    cases hv
    cases hv2
    refine lv_icmp_ge hx.1 hx.2.1 hd ht (fun q => ?_) (fun q => ?_)
    · have q : (y ≤ x) := q
      dsimp only at k
      rw [decide_eq_true q] at k
      exact k H locs cells slots ls _ ws hP hD hS hX hH hL hs hc hk
    · have q : ¬ (y ≤ x) := q
      dsimp only at k
      rw [decide_eq_false q] at k
      exact k H locs cells slots ls _ ws hP hD hS hX hH hL hs hc hk
  · cases hg
theorem s_if_gt {t : Nat} {off : Int} (hd : decode cc pc = .ok (.ifCond .gt off, 3)) (ht : (pc : Int) + off = (t : Int)) : SndF own cc nL ini pc (oIf1 t (pc + 3) (fun x => decide (0 < x))) := by
  intro p l e R s m args below meth c D tys A H0 w0 Q hx f pc' f' hg k
  intro H locs cells slots ls st ws hP hD hS hX hH hL hs hc hk
  unfold oIf1 at hg
  split at hg
  · rename_i x r hi
    cases hg
    rw [hi] at hs
    obtain ⟨u, us, rfl, hv, hs⟩ := hs
    cases hv
    refine lv_if_gt hx.1 hx.2.1 hd ht (fun q => ?_) (fun q => ?_)
    · have q : (0 < x) := q
      dsimp only at k
      rw [decide_eq_true q] at k
      exact k H locs cells slots ls _ ws hP hD hS hX hH hL hs hc hk
    · have q : ¬ (0 < x) := q
      dsimp only at k
      rw [decide_eq_false q] at k
      exact k H locs cells slots ls _ ws hP hD hS hX hH hL hs hc hk
  · cases hg
theorem s_icmp_gt {t : Nat} {off : Int} (hd : decode cc pc = .ok (.if_icmp .gt off, 3)) (ht : (pc : Int) + off = (t : Int)) : SndF own cc nL ini pc (oIf2 t (pc + 3) (fun x y => decide (y < x))) := by
  intro p l e R s m args below meth c D tys A H0 w0 Q hx f pc' f' hg k
  intro H locs cells slots ls st ws hP hD hS hX hH hL hs hc hk
  unfold oIf2 at hg
  split at hg
  · rename_i y x r hi
    cases hg
    rw [hi] at hs
    obtain ⟨u, us, rfl, hv, hs⟩ := hs
    obtain ⟨u2, us, rfl, hv2, hs⟩ := hs
    cases hv
    cases hv2
    refine lv_icmp_gt hx.1 hx.2.1 hd ht (fun q => ?_) (fun q => ?_)
    · have q : (y < x) := q
      dsimp only at k
      rw [decide_eq_true q] at k
      exact k H locs cells slots ls _ ws hP hD hS hX hH hL hs hc hk
    · have q : ¬ (y < x) := q
      dsimp only at k
      rw [decide_eq_false q] at k
      exact k H locs cells slots ls _ ws hP hD hS hX hH hL hs hc hk
  · cases hg
theorem s_if_le {t : Nat} {off : Int} (hd : decode cc pc = .ok (.ifCond .le off, 3)) (ht : (pc : Int) + off = (t : Int)) : SndF own cc nL ini pc (oIf1 t (pc + 3) (fun x => decide (x ≤ 0))) := by
  intro p l e R s m args below meth c D tys A H0 w0 Q hx f pc' f' hg k
  intro H locs cells slots ls st ws hP hD hS hX hH hL hs hc hk
  unfold oIf1 at hg
  split at hg
  · rename_i x r hi
    cases hg
    rw [hi] at hs
    obtain ⟨u, us, rfl, hv, hs⟩ := hs
    cases hv
    refine lv_if_le hx.1 hx.2.1 hd ht (fun q => ?_) (fun q => ?_)
    · have q : (x ≤ 0) := q
      dsimp only at k
      rw [decide_eq_true q] at k
      exact k H locs cells slots ls _ ws hP hD hS hX hH hL hs hc hk
    · have q : ¬ (x ≤ 0) := q
      dsimp only at k
      rw [decide_eq_false q] at k
      exact k H locs cells slots ls _ ws hP hD hS hX hH hL hs hc hk
  · cases hg
theorem s_icmp_le {t : Nat} {off : Int} (hd : decode cc pc = .ok (.if_icmp .le off, 3)) (ht : (pc : Int) + off = (t : Int)) : SndF own cc nL ini pc (oIf2 t (pc + 3) (fun x y => decide (x ≤ y))) := by
  intro p l e R s m args below meth c D tys A H0 w0 Q hx f pc' f' hg k
  intro H locs cells slots ls st ws hP hD hS hX hH hL hs hc hk
  unfold oIf2 at hg
  split at hg
  · rename_i y x r hi
    cases hg
    rw [hi] at hs
    obtain ⟨u, us, rfl, hv, hs⟩ := hs
    obtain ⟨u2, us, rfl, hv2, hs⟩ := hs
    cases hv
    cases hv2
    refine lv_icmp_le hx.1 hx.2.1 hd ht (fun q => ?_) (fun q => ?_)
    · have q : (x ≤ y) := q
      dsimp only at k
      rw [decide_eq_true q] at k
      exact k H locs cells slots ls _ ws hP hD hS hX hH hL hs hc hk
    · have q : ¬ (x ≤ y) := q
      dsimp only at k
      rw [decide_eq_false q] at k
      exact k H locs cells slots ls _ ws hP hD hS hX hH hL hs hc hk
  · cases hg
theorem s_ifnull {t : Nat} {off : Int} (hd : decode cc pc = .ok (.ifnull off, 3)) (ht : (pc : Int) + off = (t : Int)) : SndF own cc nL ini pc (oNul t (pc + 3)) := by
  intro p l e R s m args below meth c D tys A H0 w0 Q hx f pc' f' hg k
  intro H locs cells slots ls st ws hP hD hS hX hH hL hs hc hk
  unfold oNul at hg
  split at hg
  · rename_i r hi
    cases hg
    rw [hi] at hs
    obtain ⟨u, us, rfl, hv, hs⟩ := hs
    cases hv
    refine lv_ifnullN hx.1 hx.2.1 hd ht ?_
    exact k H locs cells slots ls _ ws hP hD hS hX hH hL hs hc hk
  · rename_i y r hi
    cases hg
    rw [hi] at hs
    obtain ⟨u, us, rfl, hv, hs⟩ := hs
    obtain ⟨a, e2, h3, rfl⟩ := hv
    refine lv_ifnull hx.1 hx.2.1 hd ?_
    exact k H locs cells slots ls _ ws hP hD hS hX hH hL hs hc hk
  · cases hg
theorem s_ifnonnull {t : Nat} {off : Int} (hd : decode cc pc = .ok (.ifnonnull off, 3)) (ht : (pc : Int) + off = (t : Int)) : SndF own cc nL ini pc (oNul (pc + 3) t) := by
  intro p l e R s m args below meth c D tys A H0 w0 Q hx f pc' f' hg k
  intro H locs cells slots ls st ws hP hD hS hX hH hL hs hc hk
  unfold oNul at hg
  split at hg
  · rename_i r hi
    cases hg
    rw [hi] at hs
    obtain ⟨u, us, rfl, hv, hs⟩ := hs
    cases hv
    refine lv_ifnonnullN hx.1 hx.2.1 hd ?_
    exact k H locs cells slots ls _ ws hP hD hS hX hH hL hs hc hk
  · rename_i y r hi
    cases hg
    rw [hi] at hs
    obtain ⟨u, us, rfl, hv, hs⟩ := hs
    obtain ⟨a, e2, h3, rfl⟩ := hv
    refine lv_ifnonnull hx.1 hx.2.1 hd ht ?_
    exact k H locs cells slots ls _ ws hP hD hS hX hH hL hs hc hk
  · cases hg
theorem s_goto {t : Nat} {off : Int} (hd : decode cc pc = .ok (.goto off, 3)) (ht : (pc : Int) + off = (t : Int)) : SndF own cc nL ini pc (oGo t) := by
  intro p l e R s m args below meth c D tys A H0 w0 Q hx f pc' f' hg k
  intro H locs cells slots ls st ws hP hD hS hX hH hL hs hc hk
  cases hg
  exact lv_goto hx.1 hx.2.1 hd ht (k H locs cells slots ls st ws hP hD hS hX hH hL hs hc hk)
theorem s_dup (hd : decode cc pc = .ok (.dup, 1)) : SndF own cc nL ini pc (oDup (pc + 1)) := by
  intro p l e R s m args below meth c D tys A H0 w0 Q hx f pc' f' hg k
  intro H locs cells slots ls st ws hP hD hS hX hH hL hs hc hk
  unfold oDup at hg
  split at hg
  · rename_i v r hi
    cases ha : a1 v with
    | false => rw [ha] at hg; cases hg
    | true =>
      rw [ha] at hg
      cases hg
      rw [hi] at hs
      obtain ⟨u, us, rfl, hv, hs⟩ := hs
      refine lv_dup hx.1 hx.2.1 hd (a1_cat hv ha) ?_
      exact k H locs cells slots ls _ ws hP hD hS hX hH hL ⟨u, _, rfl, hv, u, us, rfl, hv, hs⟩ hc hk
  · cases hg
theorem s_pop (hd : decode cc pc = .ok (.pop, 1)) : SndF own cc nL ini pc (oPop (pc + 1)) := by
  intro p l e R s m args below meth c D tys A H0 w0 Q hx f pc' f' hg k
  intro H locs cells slots ls st ws hP hD hS hX hH hL hs hc hk
  unfold oPop at hg
  split at hg
  · rename_i v r hi
    cases ha : a1 v with
    | false => rw [ha] at hg; cases hg
    | true =>
      rw [ha] at hg
      cases hg
      rw [hi] at hs
      obtain ⟨u, us, rfl, hv, hs⟩ := hs
      refine lv_pop hx.1 hx.2.1 hd (a1_cat hv ha) ?_
      exact k H locs cells slots ls _ ws hP hD hS hX hH hL hs hc hk
  · cases hg
theorem s_dup2 (hd : decode cc pc = .ok (.dup2, 1)) : SndF own cc nL ini pc (oDup2 (pc + 1)) := by
  intro p l e R s m args below meth c D tys A H0 w0 Q hx f pc' f' hg k
  intro H locs cells slots ls st ws hP hD hS hX hH hL hs hc hk
  unfold oDup2 at hg
  split at hg
  · rename_i v w r hi
    cases ha : a1 v with
    | false => rw [ha] at hg; cases hg
    | true =>
      cases hb : a1 w with
      | false => rw [ha, hb] at hg; cases hg
      | true =>
        rw [ha, hb] at hg
        cases hg
        rw [hi] at hs
        obtain ⟨u, us, rfl, hv, hs⟩ := hs
        obtain ⟨u2, us, rfl, hv2, hs⟩ := hs
        refine lv_dup2_11 hx.1 hx.2.1 hd (a1_cat hv ha) (a1_cat hv2 hb) ?_
        exact k H locs cells slots ls _ ws hP hD hS hX hH hL ⟨u, _, rfl, hv, u2, _, rfl, hv2, u, _, rfl, hv, u2, us, rfl, hv2, hs⟩ hc hk
  · cases hg
end OPS
