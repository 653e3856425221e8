/-! METHODS: a table of operations; a run; a call; that the machine's method does what the abstract one does -/
section OPM
variable {own : String} {cc : ByteArray} {nL : Nat} {ini : Bool} {pc : Nat}
def oSwi (q : Nat) (d : Int) (ps : List (Int × Int)) : aF → Option (Nat × aF) := fun f => match f.2.1 with
  | .inl x :: r => if 0 ≤ (q : Int) + Op.lookupswitch.offset ps d x.toInt then some (((q : Int) + Op.lookupswitch.offset ps d x.toInt).toNat, f.1, r, f.2.2) else none
  | _ => none
theorem s_swi {d : Int} {ps : Array (Int × Int)} {len : Nat} (hd : decode cc pc = .ok (.lookupswitch d ps, len)) (hp : (ps.toList.zip (ps.toList.drop 1)).all (fun (a, next) => a.1 < next.1) = true) : SndF own cc nL ini pc (oSwi pc d ps.toList) := by
  intro p l e R s m args below meth c D tys A H0 w0 Q hx f pc' f' hg kk
  intro H locs cells slots ls st ws hP hD hS hX hH hL hs hc hk
  unfold oSwi at hg
  split at hg
  · rename_i x r hi
    split at hg
    · rename_i h0
      cases hg
      rw [hi] at hs
      obtain ⟨u, us, rfl, hv, hs⟩ := hs
      cases hv
      exact lv_lookup hx.1 hx.2.1 hd hp rfl (by omega) (kk H locs cells slots ls us ws hP hD hS hX hH hL hs hc hk)
    · cases hg
  · cases hg
abbrev aOp : Type := (aF → Option (Nat × aF)) ⊕ ((Nat × Nat × Nat) ⊕ Nat)
abbrev aTab : Type := List (List (Nat × aOp))
def aAt (T : aTab) (pc : Nat) : Option aOp := (T.getD (pc / 32) []).lookup pc
/-- what a call does: the method's number, its arguments, the heap, how many cells and slots it may make, what holds behind it -/
abbrev aCE : Type := Nat → List aV → aH → Nat → Nat → (Option aV → aH → Prop) → Prop
/-- the receiver: any (0), an object of class ck - 1 -/
def aRcv (ck : Nat) (h : aH) (vs : List aV) : Bool := match ck with
  | 0 => true
  | ci + 1 => match vs with
    | .inr (.inr (some a)) :: _ => match h[a]? with
      | some (.inl (cj, _)) => cj == ci
      | _ => false
    | _ => false
def aRet (k : Nat) (v : aV) : Bool := match k, v with
  | 1, .inl _ => true
  | 2, .inr (.inl _) => true
  | 3, .inr (.inr _) => true
  | 4, .inl x => x == 0 || x == 1
  | _, _ => false
def aStep (C : aCE) (P : Option aV → aH → Prop) (N : Nat → aF → Prop) (o : aOp) (pc : Nat) (f : aF) : Prop := match o with
  | .inl g => match g f with
    | some r => N r.1 r.2
    | none => False
  | .inr (.inl q) => ∃ mc ms : Nat, aRcv q.2.2 f.2.2.1 (f.2.1.take q.2.1).reverse = true ∧ q.2.1 ≤ f.2.1.length ∧ (f.2.1.drop q.2.1).length ≤ 4 ∧ mc ≤ f.2.2.2.1 ∧ ms ≤ f.2.2.2.2 ∧ C q.1 (f.2.1.take q.2.1).reverse f.2.2.1 mc ms (fun r h' => N (pc + 3) (f.1, r.toList ++ f.2.1.drop q.2.1, h', f.2.2.2.1 - mc, f.2.2.2.2 - ms))
  | .inr (.inr k) => match f.2.1 with
    | [] => k = 0 ∧ P none f.2.2.1
    | [v] => aRet k v = true ∧ P (some v) f.2.2.1
    | _ => False
/-- the run from pc on comes to its end with P: the least such -/
def aRun (T : aTab) (C : aCE) (P : Option aV → aH → Prop) (pc : Nat) (f : aF) : Prop := ∀ I : Nat → aF → Prop, (∀ pc f, (∃ o, aAt T pc = some o ∧ aStep C P I o pc f) → I pc f) → I pc f
/-- a method: its name, its code, its locals, its answer's type, its operations -/
abbrev aMd : Type := MethodName × ByteArray × Nat × Option FieldType × aTab
def aEn : List aV → aL
  | [] => []
  | .inr (.inl x) :: vs => some (.inr (.inl x)) :: none :: aEn vs
  | v :: vs => some v :: aEn vs
def aEnt (vs : List aV) (n : Nat) : aL := aEn vs ++ List.replicate (n - (aEn vs).length) none
def aCall (Mt : List aMd) : Nat → aCE
  | 0 => fun _ _ _ _ _ _ => False
  | d + 1 => fun mi vs h mc ms P => ∃ M : aMd, Mt[mi]? = some M ∧ (aEn vs).length ≤ M.2.2.1 ∧ aRun M.2.2.2.2 (aCall Mt d) P 0 (aEnt vs M.2.2.1, [], h, mc, ms)
def rR (u : va_W) (r : Option aV) (w : Option Value) : Prop := match r, w with
  | none, none => True
  | some v, some x => rV u v x
  | _, _ => False
def aQc (P : Option aV → aH → Prop) (tys : List (ClassId × FieldType)) (D : va_G) (ws : va_W) (sz : Nat) : Array Value → State → Outcome → State → Prop := fun _ st oc t =>
  (∃ (r : Option aV) (h' : aH) (u : va_W) (w : Option Value), oc = .returned w ∧ rR u r w ∧ P r h' ∧ rX ws u ∧ rH tys u h' ∧ va_P D vwCl u t.heap ∧ va_K D vwCl tys t ∧ aNw t ∧ va_D (va_A ws sz) u) ∧ va_F (va_A ws sz) st t
def aRm (d mc ms : Nat) : Room := { frames := d + 8, cells := mc, slots := ms, locals := 40 * d + 500 }
def wsA (M : aMd) : List Cond := .code M.1 M.2.1 M.2.2.1 M.2.2.2.1 :: wG
def aPc (us : List Value) (D : va_G) (tys : List (ClassId × FieldType)) (ws : va_W) (sz : Nat) : Array Value → State → Prop := va_Pc us (fun U => U.heap.size = sz ∧ va_P D vwCl ws U.heap ∧ va_K D vwCl tys U ∧ (aNw U ∧ aRo (va_A ws sz) U U.heap) ∧ va_D (fun _ => True) ws)
/-- the methods of Mt do on the machine what C says, in a room of depth d -/
def aOK (Mt : List aMd) (d : Nat) (C : aCE) : Prop := ∀ (mi : Nat) (M : aMd), Mt[mi]? = some M → ∀ (vs : List aV) (h : aH) (mc ms : Nat) (P : Option aV → aH → Prop), C mi vs h mc ms P →
  ∀ (l : Launch) (D : va_G) (tys : List (ClassId × FieldType)) (ws : va_W) (us : List Value) (sz : Nat), tys.map Prod.snd = aTy → rH tys ws h → rS ws vs us → Met l M.1 (wsA M) (aRm d mc ms) (aPc us D tys ws sz) (aQc P tys D ws sz) mc ms (va_A ws sz)
def SndO (Mt : List aMd) (own : String) (cc : ByteArray) (nL : Nat) (ini : Bool) (ret : Option FieldType) (pc : Nat) (o : aOp) : Prop :=
  ∀ (d : Nat) (C : aCE), aOK Mt d C → ∀ (p : Program) (l : Launch) (e : Env) (s : State) (m : MethodId) (args : Array Value) (below : List Frame) (meth : Method) (c : Code) (D : va_G) (tys : List (ClassId × FieldType)) (w0 : va_W) (sz mc ms : Nat) (P : Option aV → aH → Prop),
    aCx p (aRm (d + 1) mc ms) s m args meth c own cc nL ini D tys (va_A w0 sz) s.heap → meth.sig.returnType = ret → meth.locks = false → ∀ (N : Nat → aF → Prop) (f : aF), aStep C P N o pc f →
    (∀ pc' f', N pc' f' → aGd p l e (aRm (d + 1) mc ms) s m args below meth c D tys (va_A w0 sz) s.heap nL w0 (MQ below (aQc P tys D w0 sz) args s mc ms (va_A w0 sz)) pc' f') →
    aGd p l e (aRm (d + 1) mc ms) s m args below meth c D tys (va_A w0 sz) s.heap nL w0 (MQ below (aQc P tys D w0 sz) args s mc ms (va_A w0 sz)) pc f
variable {Mt : List aMd} {ret : Option FieldType}
theorem so_f {g : aF → Option (Nat × aF)} (h : SndF own cc nL ini pc g) : SndO Mt own cc nL ini ret pc (.inl g) := by
  intro d C hC p l e s m args below meth c D tys w0 sz mc ms P hx hr hl N f hs hN
  have hs : (match g f with
    | some r => N r.1 r.2
    | none => False) := hs
  cases hg : g f with
  | none => rw [hg] at hs; exact hs.elim
  | some r =>
    rw [hg] at hs
    exact h p l e _ s m args below meth c D tys _ _ w0 _ hx f r.1 r.2 hg (hN _ _ hs)
theorem so_v (hd : decode cc pc = .ok (.return_, 1)) (hret : ret = none) : SndO Mt own cc nL ini ret pc (.inr (.inr 0)) := by
  intro d C hC p l e s m args below meth c D tys w0 sz mc ms P hx hr hl N f hs hN
  intro H locs cells slots ls st ws hP hD hS hX hH hL hst hc hk
  unfold aStep at hs
  dsimp only at hs
  split at hs
  · rename_i hi
    rw [hi] at hst
    cases hst
    refine W.widen (k := mc) (n := ms) (by have : cells + f.2.2.2.1 = mc := hc; omega) (by have : slots + f.2.2.2.2 = ms := hk; omega) ?_
    exact W.vret hx.1 hx.2.1 (by rw [hr, hret]) (fun t ht hW => ⟨⟨none, f.2.2.1, ws, none, rfl, trivial, hs.2, hX, hH, by rw [ht]; exact hP, va_K.moved hW.alike hx.2.2.2.2.2.1, aNw.warm hW hx.2.2.2.2.2.2.2.2.2.1.1, hD⟩, hS.F ht⟩) hS.2.2 hd hl
  · rename_i v hi
    exact absurd hs.1 (by cases v <;> simp [aRet])
  · exact hs.elim
theorem so_i (hd : decode cc pc = .ok (.ireturn, 1)) (hret : ret = some .int) : SndO Mt own cc nL ini ret pc (.inr (.inr 1)) := by
  intro d C hC p l e s m args below meth c D tys w0 sz mc ms P hx hr hl N f hs hN
  intro H locs cells slots ls st ws hP hD hS hX hH hL hst hc hk
  unfold aStep at hs
  dsimp only at hs
  split at hs
  · exact absurd hs.1 (by decide)
  · rename_i v hi
    rw [hi] at hst
    obtain ⟨u, us, rfl, hv, hst⟩ := hst
    cases hst
    match v, hv, hs with
    | .inl x, hv, hs =>
      cases hv
      refine W.widen (k := mc) (n := ms) (by have : cells + f.2.2.2.1 = mc := hc; omega) (by have : slots + f.2.2.2.2 = ms := hk; omega) ?_
      exact W.iret hx.1 hx.2.1 (by rw [hr, hret]) (fun t ht hW => ⟨⟨some (.inl x), f.2.2.1, ws, _, rfl, show rV ws (.inl x) (.int x) from rfl, hs.2, hX, hH, by rw [ht]; exact hP, va_K.moved hW.alike hx.2.2.2.2.2.1, aNw.warm hW hx.2.2.2.2.2.2.2.2.2.1.1, hD⟩, hS.F ht⟩) hS.2.2 hd hl
    | .inr x, hv, hs => exact absurd hs.1 (by simp [aRet])
  · exact hs.elim
theorem so_z (hd : decode cc pc = .ok (.ireturn, 1)) (hret : ret = some .boolean) : SndO Mt own cc nL ini ret pc (.inr (.inr 4)) := by
  intro d C hC p l e s m args below meth c D tys w0 sz mc ms P hx hr hl N f hs hN
  intro H locs cells slots ls st ws hP hD hS hX hH hL hst hc hk
  unfold aStep at hs
  dsimp only at hs
  split at hs
  · exact absurd hs.1 (by decide)
  · rename_i v hi
    rw [hi] at hst
    obtain ⟨u, us, rfl, hv, hst⟩ := hst
    cases hst
    match v, hv, hs with
    | .inl x, hv, hs =>
      cases hv
      refine W.widen (k := mc) (n := ms) (by have : cells + f.2.2.2.1 = mc := hc; omega) (by have : slots + f.2.2.2.2 = ms := hk; omega) ?_
      have hx01 : x = 0 ∨ x = 1 := by
        have h9 := hs.1
        simp only [aRet, Bool.or_eq_true, beq_iff_eq] at h9
        exact h9
      exact W.zret (ty := .boolean) hx.1 hx.2.1 (by rw [hr, hret]) (by rcases hx01 with rfl | rfl <;> rfl) (fun t ht hW => ⟨⟨some (.inl x), f.2.2.1, ws, _, rfl, show rV ws (.inl x) (.int x) from rfl, hs.2, hX, hH, by rw [ht]; exact hP, va_K.moved hW.alike hx.2.2.2.2.2.1, aNw.warm hW hx.2.2.2.2.2.2.2.2.2.1.1, hD⟩, hS.F ht⟩) hS.2.2 hd hl
    | .inr x, hv, hs => exact absurd hs.1 (by simp [aRet])
  · exact hs.elim
theorem so_j (hd : decode cc pc = .ok (.lreturn, 1)) (hret : ret = some .long) : SndO Mt own cc nL ini ret pc (.inr (.inr 2)) := by
  intro d C hC p l e s m args below meth c D tys w0 sz mc ms P hx hr hl N f hs hN
  intro H locs cells slots ls st ws hP hD hS hX hH hL hst hc hk
  unfold aStep at hs
  dsimp only at hs
  split at hs
  · exact absurd hs.1 (by decide)
  · rename_i v hi
    rw [hi] at hst
    obtain ⟨u, us, rfl, hv, hst⟩ := hst
    cases hst
    match v, hv, hs with
    | .inr (.inl x), hv, hs =>
      cases hv
      refine W.widen (k := mc) (n := ms) (by have : cells + f.2.2.2.1 = mc := hc; omega) (by have : slots + f.2.2.2.2 = ms := hk; omega) ?_
      exact W.lret hx.1 hx.2.1 (by rw [hr, hret]) (fun t ht hW => ⟨⟨some (.inr (.inl x)), f.2.2.1, ws, _, rfl, show rV ws (.inr (.inl x)) (.long x) from rfl, hs.2, hX, hH, by rw [ht]; exact hP, va_K.moved hW.alike hx.2.2.2.2.2.1, aNw.warm hW hx.2.2.2.2.2.2.2.2.2.1.1, hD⟩, hS.F ht⟩) hS.2.2 hd hl
    | .inl x, hv, hs => exact absurd hs.1 (by simp [aRet])
    | .inr (.inr x), hv, hs => exact absurd hs.1 (by simp [aRet])
  · exact hs.elim
theorem so_a {rt : FieldType} (hrt : (∃ n, rt = .object n) ∨ ∃ t, rt = .array t) (hd : decode cc pc = .ok (.areturn, 1)) (hret : ret = some rt) : SndO Mt own cc nL ini ret pc (.inr (.inr 3)) := by
  intro d C hC p l e s m args below meth c D tys w0 sz mc ms P hx hr hl N f hs hN
  intro H locs cells slots ls st ws hP hD hS hX hH hL hst hc hk
  unfold aStep at hs
  dsimp only at hs
  split at hs
  · exact absurd hs.1 (by decide)
  · rename_i v hi
    rw [hi] at hst
    obtain ⟨u, us, rfl, hv, hst⟩ := hst
    cases hst
    match v, hv, hs with
    | .inr (.inr x), hv, hs =>
      have hu : u = .null ∨ ∃ a, u = .ref a := by
        match x, hv with
        | none, hv => exact Or.inl hv
        | some k, hv =>
          obtain ⟨a, e2, -, h3⟩ := hv
          exact Or.inr ⟨a, h3⟩
      refine W.widen (k := mc) (n := ms) (by have : cells + f.2.2.2.1 = mc := hc; omega) (by have : slots + f.2.2.2.2 = ms := hk; omega) ?_
      exact W.aret hx.1 hx.2.1 (by rw [hr, hret]) hrt hu (fun t ht hW => ⟨⟨some (.inr (.inr x)), f.2.2.1, ws, _, rfl, show rV ws (.inr (.inr x)) u from hv, hs.2, hX, hH, by rw [ht]; exact hP, va_K.moved hW.alike hx.2.2.2.2.2.1, aNw.warm hW hx.2.2.2.2.2.2.2.2.2.1.1, hD⟩, hS.F ht⟩) hS.2.2 hd hl
    | .inl x, hv, hs => exact absurd hs.1 (by simp [aRet])
    | .inr (.inl x), hv, hs => exact absurd hs.1 (by simp [aRet])
  · exact hs.elim
/-- behind a call -/
theorem a_call {p : Program} {l : Launch} {e : Env} {R : Room} {s : State} {m : MethodId} {args : Array Value} {below : List Frame} {meth : Method} {c : Code} {H : Heap} {locs : List Loc} {cells slots : Nat} {Q : State → Prop} {ls : Array Slot} {rest st0 : List Value} {a : Array Value} {A0 : Nat → Prop} {H0 : Heap} {mc ms : Nat} {P : Option aV → aH → Prop} {tys : List (ClassId × FieldType)} {D : va_G} {ws : va_W}
    (hr : va_Run p l e R s m args below meth c H locs cells slots mc ms (F0 m pc ls st0) rest (aQc P tys D ws H.size a) (va_A ws H.size)) (hS : va_S A0 H0 H locs) (hD : va_D A0 ws) (hA : ∀ q, H0.size ≤ q → A0 q)
    (kk : ∀ (r : Option aV) (h' : aH) (u : va_W) (w : Option Value) (H1 : Heap) (locs1 : List Loc), rR u r w → P r h' → rX ws u → rH tys u h' → va_P D vwCl u H1 → va_D A0 u → va_S A0 H0 H1 locs1 → W p l e R s m args below meth c H1 locs1 (cells + mc) (slots + ms) Q (F0 m (pc + 3) ls (w.toList ++ rest))) : W p l e R s m args below meth c H locs cells slots Q (F0 m pc ls st0) := by
  intro T hT X
  obtain ⟨v, st₀, t, T', L, h0, X', hL, e1, e2, ⟨⟨r, h', u, w, hv, hrr, hp, hx, hh, hP, hK, hN, hDu⟩, hz, hk⟩, st⟩ := hr T hT X
  cases hv
  rw [h0] at hz hk
  have hfa : ∀ q, va_A ws H.size q → A0 q := fun q hq => by
    rcases hq with ⟨k, e, h⟩ | h
    · exact hD.2 k _ h
    · exact hA q (Nat.le_trans hS.1 h)
  obtain ⟨t2, a1, b1⟩ := kk r h' u v T'.heap (locs ++ L) hrr hp hx hh (by rw [e1]; exact hP) ⟨hDu.1, fun k q hk => hfa _ (hDu.2 k q hk)⟩
    ⟨Nat.le_trans hS.1 (by rw [e1]; exact hz), fun q h1 h2 => by rw [e1, hk q (Nat.lt_of_lt_of_le h1 hS.1) (fun z => h2 (hfa q z))]; exact hS.2.1 q h1 h2, fun q hq => by
      rcases List.mem_append.mp hq with h | h
      · exact hS.2.2 q h
      · exact hfa _ (hL q h)⟩ T' rfl X'
  exact ⟨t2, st t2 a1, b1⟩
theorem aPc_blind {us : List Value} {D : va_G} {tys : List (ClassId × FieldType)} {ws : va_W} {sz : Nat} : FrameBlind (aPc us D tys ws sz) := fun a U g mk q => by
  obtain ⟨q0, q1, qP, qK, qN, qD⟩ := q
  exact ⟨q0, q1, qP, va_K.moved (u := U) (U := U.calling g mk a) (Vm.Alike.refl U.vm) qK, ⟨aNw.same rfl qN.1, aRo.same (u := U) (U := U.calling g mk a) rfl qN.2⟩, qD⟩
theorem aPc_at {us : List Value} {D : va_G} {tys : List (ClassId × FieldType)} {ws : va_W} {A : Nat → Prop} {s U : State} {H : Heap} (hU : U.heap = H) (hW : s.WarmedH U.vm) (hP : va_P D vwCl ws H) (hK : va_K D vwCl tys s) (hN : aNw s) (hD : va_D A ws) {locs : List Loc} (hR : aRo A s s.heap) (hS : va_S A s.heap H locs) (hA : ∀ q, s.heap.size ≤ q → A q) : aPc us D tys ws H.size us.toArray U := ⟨rfl, by rw [hU], by rw [hU]; exact hP, va_K.moved hW.alike hK, ⟨aNw.warm hW hN, by rw [hU]; exact hR.at hS hD hA hW⟩, hD.weaken (fun _ _ _ _ => trivial)⟩
theorem aCB {s : State} {args : Array Value} {d mc ms mc' ms' n : Nat} {own : String} {index : Nat} {M : aMd} (hts : ∀ w ∈ wG, w.before args s = true) (hcode : Cond.code M.1 M.2.1 M.2.2.1 M.2.2.2.1 ∈ wG) (hini : Cond.initialized M.1.cls ∈ wG) (hl : Cond.methodLink own index M.1 ∈ wG) (hd : M.1.cls ≠ "java/lang/invoke/MethodHandle" ∧ M.1.cls ≠ "java/lang/invoke/VarHandle" ∧ (parseMethodDescriptor M.1.desc).map (fun d => d.parameters.length) = some n) (hn : M.2.2.1 ≤ 21) : CallB (aRm (d + 1) mc ms) s args own index M.1 M.2.1 M.2.2.1 M.2.2.2.1 (wsA M) (aRm d mc' ms') mc' ms' n :=
  callB_of n hts (wG_good (fun w hw => by
    rcases List.mem_cons.mp hw with rfl | hw
    · exact hcode
    · exact hw)) rfl rfl rfl (hts _ hini) (hts _ hl) hd ⟨Nat.le_refl _, by show 8 + (M.2.2.1 + 11) + (40 * d + 500) ≤ 40 * (d + 1) + 500; omega⟩
theorem aCN {s : State} {args : Array Value} {d mc ms mc' ms' n : Nat} {own host : String} {index : Nat} {M : aMd} (hts : ∀ w ∈ wG, w.before args s = true) (hcode : Cond.code M.1 M.2.1 M.2.2.1 M.2.2.2.1 ∈ wG) (hini : Cond.initialized M.1.cls ∈ wG) (hNw : aNw s) (hl : (own, index, M.1, host) ∈ aNl) (hd : M.1.cls ≠ "java/lang/invoke/MethodHandle" ∧ M.1.cls ≠ "java/lang/invoke/VarHandle" ∧ (parseMethodDescriptor M.1.desc).map (fun d => d.parameters.length) = some n) (hn : M.2.2.1 ≤ 21) : va_CN (aRm (d + 1) mc ms) s args own index M.1 host M.2.1 M.2.2.1 M.2.2.2.1 (wsA M) (aRm d mc' ms') mc' ms' n :=
  va_cnB n hts (wG_good (fun w hw => by
    rcases List.mem_cons.mp hw with rfl | hw
    · exact hcode
    · exact hw)) rfl rfl rfl (hNw.1 _ hl) (hts _ hini) hd ⟨Nat.le_refl _, by show 8 + (M.2.2.1 + 11) + (40 * d + 500) ≤ 40 * (d + 1) + 500; omega⟩
theorem split_at {st : List Value} {n : Nat} : st = ((st.take n).reverse).reverse ++ st.drop n := by
  rw [List.reverse_reverse, List.take_append_drop]
theorem rR_st {u : va_W} {r : Option aV} {w : Option Value} {vs : List aV} {us : List Value} (h : rR u r w) (hs : rS u vs us) : rS u (r.toList ++ vs) (w.toList ++ us) := by
  match r, w, h with
  | none, none, _ => exact hs
  | some v, some x, h => exact ⟨x, us, rfl, h, hs⟩
theorem so_cs {mi k index : Nat} {M : aMd} (hM : Mt[mi]? = some M) (hcode : Cond.code M.1 M.2.1 M.2.2.1 M.2.2.2.1 ∈ wG) (hini : Cond.initialized M.1.cls ∈ wG) (hlk : Cond.methodLink own index M.1 ∈ wG) (hst0 : Cond.static M.1 ∈ wG) (hdd : M.1.cls ≠ "java/lang/invoke/MethodHandle" ∧ M.1.cls ≠ "java/lang/invoke/VarHandle" ∧ (parseMethodDescriptor M.1.desc).map (fun d => d.parameters.length) = some k) (hn21 : M.2.2.1 ≤ 21) (hd : decode cc pc = .ok (.invokestatic index, 3)) : SndO Mt own cc nL ini ret pc (.inr (.inl (mi, k, 0))) := by
  intro d C hC p l e s m args below meth c D tys w0 sz mc ms P hx hr hl N f hs hN
  intro H locs cells slots ls st ws hP hD hS hX hH hL hst hc hk
  obtain ⟨mc1, ms1, hrcv, hlen, hrest, hmc, hms, hcall⟩ := hs
  dsimp only at hrcv hlen hrest hcall
  have hst2 := hst.split (n := k)
  have hargs : rS ws (f.2.1.take (k)).reverse (st.take (k)).reverse := hst2.1.rev
  have hcat : ((st.drop (k)).map fun v => v.category).sum ≤ 8 := by
    have h1 := hst2.2.len
    have h2 := cat_le (st.drop (k))
    omega
  have hcc : cells + f.2.2.2.1 = mc := hc
  have hkk : slots + f.2.2.2.2 = ms := hk
  have hMet := hC mi M hM (f.2.1.take (k)).reverse f.2.2.1 mc1 ms1 _ hcall l D tys ws (st.take (k)).reverse H.size hx.2.2.2.2.2.2.1 hH hargs
  have hsp : st = ((st.take (k)).reverse).reverse ++ st.drop (k) := split_at
  have hln : (st.take (k)).reverse.length = k := by
    have := hst.len
    rw [List.length_reverse, List.length_take]
    omega
  generalize hus : (st.take k).reverse = As at hMet hsp hln hargs
  have hAs : As.length = k := hln
  have hstk : st = As.reverse ++ st.drop k := hsp
  refine a_call (va_runS ⟨hx.1, hx.2.1, hx.2.2.1, hx.2.2.2.1, hx.2.2.2.2.1⟩ hMet ⟨aCB hx.2.2.2.2.1 hcode hini hlk hdd hn21, hx.2.2.2.2.1 _ hst0⟩ ⟨aPc_blind, fun U hU hW => aPc_at hU hW hP hx.2.2.2.2.2.1 hx.2.2.2.2.2.2.2.2.2.1.1 hD hx.2.2.2.2.2.2.2.2.2.1.2.1 hS hx.2.2.2.2.2.2.2.1⟩ rfl hAs hL.1 hstk (lv_room hcat) hd ⟨by show cells + mc1 ≤ mc; omega, by show slots + ms1 ≤ ms; omega⟩) hS hD hx.2.2.2.2.2.2.2.1 (fun r h' u w H1 locs1 hrr hp hXu hHu hPu hDu hSu => ?_)
  have hst3 := hst2.2
  refine hN _ _ hp H1 locs1 (cells + mc1) (slots + ms1) ls (w.toList ++ st.drop (k)) u hPu hDu hSu (hX.tr hXu) hHu (hL.ext hXu) ?_ (by show cells + mc1 + (f.2.2.2.1 - mc1) = mc; omega) (by show slots + ms1 + (f.2.2.2.2 - ms1) = ms; omega)
  exact rR_st hrr (hst3.ext hXu)
theorem so_csn {mi k index : Nat} {M : aMd} {host : String} (hM : Mt[mi]? = some M) (hcode : Cond.code M.1 M.2.1 M.2.2.1 M.2.2.2.1 ∈ wG) (hini : Cond.initialized M.1.cls ∈ wG) (hlk : (own, index, M.1, host) ∈ aNl) (hst0 : Cond.static M.1 ∈ wG) (hdd : M.1.cls ≠ "java/lang/invoke/MethodHandle" ∧ M.1.cls ≠ "java/lang/invoke/VarHandle" ∧ (parseMethodDescriptor M.1.desc).map (fun d => d.parameters.length) = some k) (hn21 : M.2.2.1 ≤ 21) (hd : decode cc pc = .ok (.invokestatic index, 3)) : SndO Mt own cc nL ini ret pc (.inr (.inl (mi, k, 0))) := by
  intro d C hC p l e s m args below meth c D tys w0 sz mc ms P hx hr hl N f hs hN
  intro H locs cells slots ls st ws hP hD hS hX hH hL hst hc hk
  obtain ⟨mc1, ms1, hrcv, hlen, hrest, hmc, hms, hcall⟩ := hs
  dsimp only at hrcv hlen hrest hcall
  have hst2 := hst.split (n := k)
  have hargs : rS ws (f.2.1.take (k)).reverse (st.take (k)).reverse := hst2.1.rev
  have hcat : ((st.drop (k)).map fun v => v.category).sum ≤ 8 := by
    have h1 := hst2.2.len
    have h2 := cat_le (st.drop (k))
    omega
  have hcc : cells + f.2.2.2.1 = mc := hc
  have hkk : slots + f.2.2.2.2 = ms := hk
  have hMet := hC mi M hM (f.2.1.take (k)).reverse f.2.2.1 mc1 ms1 _ hcall l D tys ws (st.take (k)).reverse H.size hx.2.2.2.2.2.2.1 hH hargs
  have hsp : st = ((st.take (k)).reverse).reverse ++ st.drop (k) := split_at
  have hln : (st.take (k)).reverse.length = k := by
    have := hst.len
    rw [List.length_reverse, List.length_take]
    omega
  generalize hus : (st.take k).reverse = As at hMet hsp hln hargs
  have hAs : As.length = k := hln
  have hstk : st = As.reverse ++ st.drop k := hsp
  refine a_call (va_runSN ⟨hx.1, hx.2.1, hx.2.2.1, hx.2.2.2.1, hx.2.2.2.2.1⟩ hMet ⟨aCN hx.2.2.2.2.1 hcode hini hx.2.2.2.2.2.2.2.2.2.1.1 hlk hdd hn21, hx.2.2.2.2.1 _ hst0, trivial⟩ ⟨aPc_blind, fun U hU hW => aPc_at hU hW hP hx.2.2.2.2.2.1 hx.2.2.2.2.2.2.2.2.2.1.1 hD hx.2.2.2.2.2.2.2.2.2.1.2.1 hS hx.2.2.2.2.2.2.2.1⟩ rfl hAs hL.1 hstk (lv_room hcat) hd ⟨by show cells + mc1 ≤ mc; omega, by show slots + ms1 ≤ ms; omega⟩) hS hD hx.2.2.2.2.2.2.2.1 (fun r h' u w H1 locs1 hrr hp hXu hHu hPu hDu hSu => ?_)
  have hst3 := hst2.2
  refine hN _ _ hp H1 locs1 (cells + mc1) (slots + ms1) ls (w.toList ++ st.drop (k)) u hPu hDu hSu (hX.tr hXu) hHu (hL.ext hXu) ?_ (by show cells + mc1 + (f.2.2.2.1 - mc1) = mc; omega) (by show slots + ms1 + (f.2.2.2.2 - ms1) = ms; omega)
  exact rR_st hrr (hst3.ext hXu)
theorem so_cv {mi k index : Nat} {M : aMd} {ci N : Nat} {T : u_T} (hM : Mt[mi]? = some M) (hcode : Cond.code M.1 M.2.1 M.2.2.1 M.2.2.2.1 ∈ wG) (hini : Cond.initialized M.1.cls ∈ wG) (hcl : vwCl[ci]? = some (M.1.cls, T, N)) (hlk : Cond.methodLink own index M.1 ∈ wG) (him : Cond.instanceMethod M.1 ∈ wG) (hsel : Cond.selects M.1.cls M.1 M.1 ∈ wG) (hdd : M.1.cls ≠ "java/lang/invoke/MethodHandle" ∧ M.1.cls ≠ "java/lang/invoke/VarHandle" ∧ (parseMethodDescriptor M.1.desc).map (fun d => d.parameters.length) = some k) (hn21 : M.2.2.1 ≤ 21) (hd : decode cc pc = .ok (.invokevirtual index, 3)) : SndO Mt own cc nL ini ret pc (.inr (.inl (mi, k + 1, ci + 1))) := by
  intro d C hC p l e s m args below meth c D tys w0 sz mc ms P hx hr hl N f hs hN
  intro H locs cells slots ls st ws hP hD hS hX hH hL hst hc hk
  obtain ⟨mc1, ms1, hrcv, hlen, hrest, hmc, hms, hcall⟩ := hs
  dsimp only at hrcv hlen hrest hcall
  have hst2 := hst.split (n := k + 1)
  have hargs : rS ws (f.2.1.take (k + 1)).reverse (st.take (k + 1)).reverse := hst2.1.rev
  have hcat : ((st.drop (k + 1)).map fun v => v.category).sum ≤ 8 := by
    have h1 := hst2.2.len
    have h2 := cat_le (st.drop (k + 1))
    omega
  have hcc : cells + f.2.2.2.1 = mc := hc
  have hkk : slots + f.2.2.2.2 = ms := hk
  have hMet := hC mi M hM (f.2.1.take (k + 1)).reverse f.2.2.1 mc1 ms1 _ hcall l D tys ws (st.take (k + 1)).reverse H.size hx.2.2.2.2.2.2.1 hH hargs
  have hsp : st = ((st.take (k + 1)).reverse).reverse ++ st.drop (k + 1) := split_at
  have hln : (st.take (k + 1)).reverse.length = k + 1 := by
    have := hst.len
    rw [List.length_reverse, List.length_take]
    omega
  generalize hus : (st.take (k + 1)).reverse = us at hMet hsp hln hargs
  generalize hvs : (f.2.1.take (k + 1)).reverse = vs at hMet hargs hrcv
  match us, hln with
  | b0 :: As, hln =>
    have hAs : As.length = k := by simpa using hln
    have hrcv2 : ∃ (a : Nat) (fs : List aV), vs.head? = some (.inr (.inr (some a))) ∧ f.2.2.1[a]? = some (.inl (ci, fs)) := by
      unfold aRcv at hrcv
      dsimp only at hrcv
      split at hrcv
      · rename_i a r
        split at hrcv
        · rename_i cj fs ha
          have : cj = ci := by simpa using hrcv
          subst this
          exact ⟨a, fs, rfl, ha⟩
        · cases hrcv
      · cases hrcv
    obtain ⟨a, fs, hhd, ha⟩ := hrcv2
    match vs, hhd, hargs with
    | v0 :: vs, hhd, hargs =>
      cases hhd
      obtain ⟨z, zs, hz1, hz2, hz3⟩ := hargs
      cases hz1
      obtain ⟨b, gs, rfl, hb1, hb2⟩ := hH.obj ha hz2
      have hstk : st = As.reverse ++ .ref b :: st.drop (k + 1) := by
        rw [List.reverse_cons, List.append_assoc] at hsp
        exact hsp
      refine a_call (va_runV ⟨hx.1, hx.2.1, hx.2.2.1, hx.2.2.2.1, hx.2.2.2.2.1⟩ hMet ⟨aCB hx.2.2.2.2.1 hcode hini hlk hdd hn21, hx.2.2.2.2.1 _ him, hx.2.2.2.2.1 _ hsel⟩ ⟨aPc_blind, va_recv hx.2.2.2.2.2.1 hP hcl hb1, fun U hU hW => aPc_at hU hW hP hx.2.2.2.2.2.1 hx.2.2.2.2.2.2.2.2.2.1.1 hD hx.2.2.2.2.2.2.2.2.2.1.2.1 hS hx.2.2.2.2.2.2.2.1⟩ rfl hAs hL.1 hstk (lv_room hcat) hd ⟨by show cells + mc1 ≤ mc; omega, by show slots + ms1 ≤ ms; omega⟩) hS hD hx.2.2.2.2.2.2.2.1 (fun r h' u w H1 locs1 hrr hp hXu hHu hPu hDu hSu => ?_)
      have hst3 := hst2.2
      refine hN _ _ hp H1 locs1 (cells + mc1) (slots + ms1) ls (w.toList ++ st.drop (k + 1)) u hPu hDu hSu (hX.tr hXu) hHu (hL.ext hXu) ?_ (by show cells + mc1 + (f.2.2.2.1 - mc1) = mc; omega) (by show slots + ms1 + (f.2.2.2.2 - ms1) = ms; omega)
      exact rR_st hrr (hst3.ext hXu)
theorem so_ci {mi k index : Nat} {M : aMd} {ci : Nat} (hM : Mt[mi]? = some M) (hcode : Cond.code M.1 M.2.1 M.2.2.1 M.2.2.2.1 ∈ wG) (hini : Cond.initialized M.1.cls ∈ wG) (hret0 : M.2.2.2.1 = none) (hlk : Cond.methodLink own index M.1 ∈ wG) (him : Cond.instanceMethod M.1 ∈ wG) (hnm : M.1.name = "<init>") (hdd : M.1.cls ≠ "java/lang/invoke/MethodHandle" ∧ M.1.cls ≠ "java/lang/invoke/VarHandle" ∧ (parseMethodDescriptor M.1.desc).map (fun d => d.parameters.length) = some k) (hn21 : M.2.2.1 ≤ 21) (hd : decode cc pc = .ok (.invokespecial index, 3)) : SndO Mt own cc nL ini ret pc (.inr (.inl (mi, k + 1, ci + 1))) := by
  intro d C hC p l e s m args below meth c D tys w0 sz mc ms P hx hr hl N f hs hN
  intro H locs cells slots ls st ws hP hD hS hX hH hL hst hc hk
  obtain ⟨mc1, ms1, hrcv, hlen, hrest, hmc, hms, hcall⟩ := hs
  dsimp only at hrcv hlen hrest hcall
  have hst2 := hst.split (n := k + 1)
  have hargs : rS ws (f.2.1.take (k + 1)).reverse (st.take (k + 1)).reverse := hst2.1.rev
  have hcat : ((st.drop (k + 1)).map fun v => v.category).sum ≤ 8 := by
    have h1 := hst2.2.len
    have h2 := cat_le (st.drop (k + 1))
    omega
  have hcc : cells + f.2.2.2.1 = mc := hc
  have hkk : slots + f.2.2.2.2 = ms := hk
  have hMet := hC mi M hM (f.2.1.take (k + 1)).reverse f.2.2.1 mc1 ms1 _ hcall l D tys ws (st.take (k + 1)).reverse H.size hx.2.2.2.2.2.2.1 hH hargs
  have hsp : st = ((st.take (k + 1)).reverse).reverse ++ st.drop (k + 1) := split_at
  have hln : (st.take (k + 1)).reverse.length = k + 1 := by
    have := hst.len
    rw [List.length_reverse, List.length_take]
    omega
  generalize hus : (st.take (k + 1)).reverse = us at hMet hsp hln hargs
  generalize hvs : (f.2.1.take (k + 1)).reverse = vs at hMet hargs hrcv
  match us, hln with
  | b0 :: As, hln =>
    have hAs : As.length = k := by simpa using hln
    have hrcv2 : ∃ (a : Nat) (fs : List aV), vs.head? = some (.inr (.inr (some a))) ∧ f.2.2.1[a]? = some (.inl (ci, fs)) := by
      unfold aRcv at hrcv
      dsimp only at hrcv
      split at hrcv
      · rename_i a r
        split at hrcv
        · rename_i cj fs ha
          have : cj = ci := by simpa using hrcv
          subst this
          exact ⟨a, fs, rfl, ha⟩
        · cases hrcv
      · cases hrcv
    obtain ⟨a, fs, hhd, ha⟩ := hrcv2
    match vs, hhd, hargs with
    | v0 :: vs, hhd, hargs =>
      cases hhd
      obtain ⟨z, zs, hz1, hz2, hz3⟩ := hargs
      cases hz1
      obtain ⟨b, gs, rfl, hb1, hb2⟩ := hH.obj ha hz2
      have hstk : st = As.reverse ++ .ref b :: st.drop (k + 1) := by
        rw [List.reverse_cons, List.append_assoc] at hsp
        exact hsp
      refine a_call (va_runI ⟨hx.1, hx.2.1, hx.2.2.1, hx.2.2.2.1, hx.2.2.2.2.1⟩ hMet ⟨by rw [← hret0]; exact aCB hx.2.2.2.2.1 hcode hini hlk hdd hn21, hnm, hx.2.2.2.2.1 _ him⟩ ⟨aPc_blind, fun U hU hW => aPc_at hU hW hP hx.2.2.2.2.2.1 hx.2.2.2.2.2.2.2.2.2.1.1 hD hx.2.2.2.2.2.2.2.2.2.1.2.1 hS hx.2.2.2.2.2.2.2.1⟩ rfl hAs hL.1 hstk (lv_room hcat) hd ⟨by show cells + mc1 ≤ mc; omega, by show slots + ms1 ≤ ms; omega⟩) hS hD hx.2.2.2.2.2.2.2.1 (fun r h' u w H1 locs1 hrr hp hXu hHu hPu hDu hSu => ?_)
      have hst3 := hst2.2
      refine hN _ _ hp H1 locs1 (cells + mc1) (slots + ms1) ls (w.toList ++ st.drop (k + 1)) u hPu hDu hSu (hX.tr hXu) hHu (hL.ext hXu) ?_ (by show cells + mc1 + (f.2.2.2.1 - mc1) = mc; omega) (by show slots + ms1 + (f.2.2.2.2 - ms1) = ms; omega)
      exact rR_st hrr (hst3.ext hXu)
theorem so_cin {mi k index : Nat} {M : aMd} {ci : Nat} {host : String} (hM : Mt[mi]? = some M) (hcode : Cond.code M.1 M.2.1 M.2.2.1 M.2.2.2.1 ∈ wG) (hini : Cond.initialized M.1.cls ∈ wG) (hret0 : M.2.2.2.1 = none) (hlk : (own, index, M.1, host) ∈ aNl) (him : Cond.instanceMethod M.1 ∈ wG) (hnm : M.1.name = "<init>") (hdd : M.1.cls ≠ "java/lang/invoke/MethodHandle" ∧ M.1.cls ≠ "java/lang/invoke/VarHandle" ∧ (parseMethodDescriptor M.1.desc).map (fun d => d.parameters.length) = some k) (hn21 : M.2.2.1 ≤ 21) (hd : decode cc pc = .ok (.invokespecial index, 3)) : SndO Mt own cc nL ini ret pc (.inr (.inl (mi, k + 1, ci + 1))) := by
  intro d C hC p l e s m args below meth c D tys w0 sz mc ms P hx hr hl N f hs hN
  intro H locs cells slots ls st ws hP hD hS hX hH hL hst hc hk
  obtain ⟨mc1, ms1, hrcv, hlen, hrest, hmc, hms, hcall⟩ := hs
  dsimp only at hrcv hlen hrest hcall
  have hst2 := hst.split (n := k + 1)
  have hargs : rS ws (f.2.1.take (k + 1)).reverse (st.take (k + 1)).reverse := hst2.1.rev
  have hcat : ((st.drop (k + 1)).map fun v => v.category).sum ≤ 8 := by
    have h1 := hst2.2.len
    have h2 := cat_le (st.drop (k + 1))
    omega
  have hcc : cells + f.2.2.2.1 = mc := hc
  have hkk : slots + f.2.2.2.2 = ms := hk
  have hMet := hC mi M hM (f.2.1.take (k + 1)).reverse f.2.2.1 mc1 ms1 _ hcall l D tys ws (st.take (k + 1)).reverse H.size hx.2.2.2.2.2.2.1 hH hargs
  have hsp : st = ((st.take (k + 1)).reverse).reverse ++ st.drop (k + 1) := split_at
  have hln : (st.take (k + 1)).reverse.length = k + 1 := by
    have := hst.len
    rw [List.length_reverse, List.length_take]
    omega
  generalize hus : (st.take (k + 1)).reverse = us at hMet hsp hln hargs
  generalize hvs : (f.2.1.take (k + 1)).reverse = vs at hMet hargs hrcv
  match us, hln with
  | b0 :: As, hln =>
    have hAs : As.length = k := by simpa using hln
    have hrcv2 : ∃ (a : Nat) (fs : List aV), vs.head? = some (.inr (.inr (some a))) ∧ f.2.2.1[a]? = some (.inl (ci, fs)) := by
      unfold aRcv at hrcv
      dsimp only at hrcv
      split at hrcv
      · rename_i a r
        split at hrcv
        · rename_i cj fs ha
          have : cj = ci := by simpa using hrcv
          subst this
          exact ⟨a, fs, rfl, ha⟩
        · cases hrcv
      · cases hrcv
    obtain ⟨a, fs, hhd, ha⟩ := hrcv2
    match vs, hhd, hargs with
    | v0 :: vs, hhd, hargs =>
      cases hhd
      obtain ⟨z, zs, hz1, hz2, hz3⟩ := hargs
      cases hz1
      obtain ⟨b, gs, rfl, hb1, hb2⟩ := hH.obj ha hz2
      have hstk : st = As.reverse ++ .ref b :: st.drop (k + 1) := by
        rw [List.reverse_cons, List.append_assoc] at hsp
        exact hsp
      refine a_call (va_runIN ⟨hx.1, hx.2.1, hx.2.2.1, hx.2.2.2.1, hx.2.2.2.2.1⟩ hMet ⟨by rw [← hret0]; exact aCN hx.2.2.2.2.1 hcode hini hx.2.2.2.2.2.2.2.2.2.1.1 hlk hdd hn21, hnm, hx.2.2.2.2.1 _ him⟩ ⟨aPc_blind, fun U hU hW => aPc_at hU hW hP hx.2.2.2.2.2.1 hx.2.2.2.2.2.2.2.2.2.1.1 hD hx.2.2.2.2.2.2.2.2.2.1.2.1 hS hx.2.2.2.2.2.2.2.1⟩ rfl hAs hL.1 hstk (lv_room hcat) hd ⟨by show cells + mc1 ≤ mc; omega, by show slots + ms1 ≤ ms; omega⟩) hS hD hx.2.2.2.2.2.2.2.1 (fun r h' u w H1 locs1 hrr hp hXu hHu hPu hDu hSu => ?_)
      have hst3 := hst2.2
      refine hN _ _ hp H1 locs1 (cells + mc1) (slots + ms1) ls (w.toList ++ st.drop (k + 1)) u hPu hDu hSu (hX.tr hXu) hHu (hL.ext hXu) ?_ (by show cells + mc1 + (f.2.2.2.1 - mc1) = mc; omega) (by show slots + ms1 + (f.2.2.2.2 - ms1) = ms; omega)
      exact rR_st hrr (hst3.ext hXu)
end OPM
