/-! OPERATIONS on cells -/
section OPH
variable {own : String} {cc : ByteArray} {nL : Nat} {ini : Bool} {pc : Nat}
/-- field k of an object of class ci -/
def oGet (n ci k : Nat) : aF → Option (Nat × aF) := fun f => match f.2.1 with
  | .inr (.inr (some a)) :: r => match f.2.2.1[a]? with
    | some (.inl (cj, fs)) => if cj = ci then match fs[k]? with
      | some v => some (n, f.1, v :: r, f.2.2)
      | none => none else none
    | _ => none
  | _ => none
def aFit (ty : FieldType) (v : aV) : Bool := match ty, v with
  | .int, .inl _ => true
  | .long, .inr (.inl _) => true
  | .object _, .inr (.inr _) => true
  | .array _, .inr (.inr _) => true
  | _, _ => false
def oPut (n ci k : Nat) (ty : FieldType) : aF → Option (Nat × aF) := fun f => match f.2.1 with
  | v :: .inr (.inr (some a)) :: r => match f.2.2.1[a]? with
    | some (.inl (cj, fs)) => if cj = ci ∧ k < fs.length then bif aFit ty v then some (n, f.1, r, f.2.2.1.set a (.inl (cj, fs.set k v)), f.2.2.2) else none else none
    | _ => none
  | _ => none
theorem rH.obj {tys : List (ClassId × FieldType)} {ws : va_W} {h : aH} (hH : rH tys ws h) {a ci : Nat} {fs : List aV} (ha : h[a]? = some (.inl (ci, fs))) {u : Value} (hv : rV ws (.inr (.inr (some a))) u) : ∃ (b : Nat) (us : List Value), u = .ref b ∧ ws[a]? = some (b, .inr (ci, us)) ∧ rS ws fs us := by
  obtain ⟨b, e, h1, us, rfl, h3⟩ := hH.2 a _ ha
  obtain ⟨b', e', h4, rfl⟩ := hv
  rw [h1] at h4
  cases h4
  exact ⟨b, us, rfl, h1, h3⟩
theorem rH.arr {tys : List (ClassId × FieldType)} {ws : va_W} {h : aH} (hH : rH tys ws h) {a kd : Nat} {x : aArr} (ha : h[a]? = some (.inr (kd, x))) {u : Value} (hv : rV ws (.inr (.inr (some a))) u) : ∃ (b : Nat) (cA : ClassId) (ty : FieldType) (y : vp_A), u = .ref b ∧ ws[a]? = some (b, .inl (cA, y)) ∧ tys[kd]? = some (cA, ty) ∧ rA ws x y := by
  obtain ⟨b, e, h1, cA, ty, y, rfl, h5, h3⟩ := hH.2 a _ ha
  obtain ⟨b', e', h4, rfl⟩ := hv
  rw [h1] at h4
  cases h4
  exact ⟨b, cA, ty, y, rfl, h1, h5, h3⟩
theorem tyOf {tys : List (ClassId × FieldType)} (ht : tys.map Prod.snd = aTy) {k : Nat} {cA : ClassId} {ty : FieldType} (h : tys[k]? = some (cA, ty)) : aTy[k]? = some ty := by
  rw [← ht, List.getElem?_map, h]
  rfl
theorem tyIs {tys : List (ClassId × FieldType)} (ht : tys.map Prod.snd = aTy) {k : Nat} {ty : FieldType} (h : aTy[k]? = some ty) : ∃ cA : ClassId, tys[k]? = some (cA, ty) := by
  rw [← ht, List.getElem?_map] at h
  cases hq : tys[k]? with
  | none => rw [hq] at h; cases h
  | some q => rw [hq] at h; cases h; exact ⟨q.1, rfl⟩
theorem aFit_ok {ty : FieldType} {ws : va_W} {v : aV} {u : Value} (h : rV ws v u) (ha : aFit ty v = true) : narrow ty u = u ∧ fits ty u = true := by
  match v, h with
  | .inl x, h =>
    rw [show u = .int x from h]
    cases ty <;> first | (exact ⟨rfl, rfl⟩) | (cases ha)
  | .inr (.inl x), h =>
    rw [show u = .long x from h]
    cases ty <;> first | (exact ⟨rfl, rfl⟩) | (cases ha)
  | .inr (.inr none), h =>
    rw [show u = .null from h]
    cases ty <;> first | (exact ⟨rfl, rfl⟩) | (cases ha)
  | .inr (.inr (some a)), h =>
    obtain ⟨b, e, -, rfl⟩ := h
    cases ty <;> first | (exact ⟨rfl, rfl⟩) | (cases ha)
theorem s_get {C : String} {T : u_T} {N ci index k : Nat} (hin : ∀ w ∈ u_ws C T N, w ∈ wG) (hcl : vwCl[ci]? = some (C, T, N)) (hkN : k < N) (hw : Cond.fieldLink own index (T k).1 (T k).2.1 (T k).2.2.1 ∈ wG) (hd : decode cc pc = .ok (.getfield index, 3)) : SndF own cc nL ini pc (oGet (pc + 3) ci k) := by
  intro p l e R s m args below meth c D tys A H0 w0 Q hx f pc' f' hg kk
  intro H locs cells slots ls st ws hP hD hS hX hH hL hs hc hk
  unfold oGet at hg
  split at hg
  · rename_i a r hi
    split at hg
    · rename_i cj fs ha
      split at hg
      · rename_i hci
        split at hg
        · rename_i v hv0
          cases hg
          subst hci
          rw [hi] at hs
          obtain ⟨u, us, rfl, hv, hs⟩ := hs
          obtain ⟨b, gs, rfl, h1, h2⟩ := hH.obj ha hv
          obtain ⟨z, h3, h4⟩ := h2.at hv0
          refine va_get hx.1 hx.2.1 hx.2.2.2.2.1 hin hx.2.2.2.1 hx.2.2.2.2.2.1 hP a h1 hcl k hkN (hx.2.2.2.2.1 _ hw) (fun _ h9 => h9) h3 hd ?_
          exact kk H locs cells slots ls _ ws hP hD hS hX hH hL ⟨z, us, rfl, h4, hs⟩ hc hk
        · cases hg
      · cases hg
    · cases hg
  · cases hg
theorem s_put {C : String} {T : u_T} {N ci index k : Nat} {ty : FieldType} (hin : ∀ w ∈ u_ws C T N, w ∈ wG) (ty0 : Nat → FieldType) (hty : ∀ k, k < N → parseFieldDescriptor (T k).2.2.1 = some (ty0 k)) (hnm : ∀ a, a < N → ∀ b, b < N → a ≠ b → (T a).2.1 ≠ (T b).2.1) (hcl : vwCl[ci]? = some (C, T, N)) (hkN : k < N) (hfin : (T k).2.2.2 = false) (hw : Cond.fieldLink own index (T k).1 (T k).2.1 (T k).2.2.1 ∈ wG) (hpd : parseFieldDescriptor (T k).2.2.1 = some ty) (hd : decode cc pc = .ok (.putfield index, 3)) : SndF own cc nL ini pc (oPut (pc + 3) ci k ty) := by
  intro p l e R s m args below meth c D tys A H0 w0 Q hx f pc' f' hg kk
  intro H locs cells slots ls st ws hP hD hS hX hH hL hs hc hk
  unfold oPut at hg
  split at hg
  · rename_i v a r hi
    split at hg
    · rename_i cj fs ha
      split at hg
      · rename_i hci
        cases hfit : aFit ty v with
        | false => rw [hfit] at hg; cases hg
        | true =>
          rw [hfit] at hg
          cases hg
          obtain ⟨rfl, hlen⟩ := hci
          rw [hi] at hs
          obtain ⟨u, us, rfl, hv, hs⟩ := hs
          obtain ⟨u2, us, rfl, hv2, hs⟩ := hs
          obtain ⟨b, gs, rfl, h1, h2⟩ := hH.obj ha hv2
          obtain ⟨f1, f2⟩ := aFit_ok hv hfit
          refine va_put hx.1 hx.2.1 hx.2.2.2.2.1 hin ty0 hty hnm hx.2.2.2.1 hx.2.2.2.2.2.1 hP hD hS a h1 hcl k hkN (hx.2.2.2.2.1 _ hw) (fun _ h9 => h9) hfin hpd f1 f2 (by rw [h2.len]; exact hlen) hd (fun H1 locs1 hP hD hS => ?_)
          have hX1 : rX ws (ws.set a (b, .inr (cj, gs.set k u))) := rX.set h1
          exact kk H1 locs1 cells slots ls us _ hP hD hS (hX.tr hX1) (hH.set h1 ⟨_, rfl, h2.set hv⟩) (hL.ext hX1) (hs.ext hX1) hc hk
      · cases hg
    · cases hg
  · cases hg
theorem s_putF {C : String} {T : u_T} {N ci index k : Nat} {ty : FieldType} (hini : ini = true) (how : (T k).1 = own) (hin : ∀ w ∈ u_ws C T N, w ∈ wG) (ty0 : Nat → FieldType) (hty : ∀ k, k < N → parseFieldDescriptor (T k).2.2.1 = some (ty0 k)) (hnm : ∀ a, a < N → ∀ b, b < N → a ≠ b → (T a).2.1 ≠ (T b).2.1) (hcl : vwCl[ci]? = some (C, T, N)) (hkN : k < N) (hfin : (T k).2.2.2 = true) (hw : Cond.fieldLink own index (T k).1 (T k).2.1 (T k).2.2.1 ∈ wG) (hpd : parseFieldDescriptor (T k).2.2.1 = some ty) (hd : decode cc pc = .ok (.putfield index, 3)) : SndF own cc nL ini pc (oPut (pc + 3) ci k ty) := by
  intro p l e R s m args below meth c D tys A H0 w0 Q hx f pc' f' hg kk
  intro H locs cells slots ls st ws hP hD hS hX hH hL hs hc hk
  unfold oPut at hg
  split at hg
  · rename_i v a r hi
    split at hg
    · rename_i cj fs ha
      split at hg
      · rename_i hci
        cases hfit : aFit ty v with
        | false => rw [hfit] at hg; cases hg
        | true =>
          rw [hfit] at hg
          cases hg
          obtain ⟨rfl, hlen⟩ := hci
          rw [hi] at hs
          obtain ⟨u, us, rfl, hv, hs⟩ := hs
          obtain ⟨u2, us, rfl, hv2, hs⟩ := hs
          obtain ⟨b, gs, rfl, h1, h2⟩ := hH.obj ha hv2
          obtain ⟨f1, f2⟩ := aFit_ok hv hfit
          refine va_putF hx.1 hx.2.1 hx.2.2.2.2.1 hin ty0 hty hnm hx.2.2.2.1 hx.2.2.2.2.2.1 hP hD hS a h1 hcl k hkN (hx.2.2.2.2.1 _ hw) (fun _ h9 => h9) hfin (hx.2.2.2.2.2.2.2.2.1 hini) how hpd f1 f2 (by rw [h2.len]; exact hlen) hd (fun H1 locs1 hP hD hS => ?_)
          have hX1 : rX ws (ws.set a (b, .inr (cj, gs.set k u))) := rX.set h1
          exact kk H1 locs1 cells slots ls us _ hP hD hS (hX.tr hX1) (hH.set h1 ⟨_, rfl, h2.set hv⟩) (hL.ext hX1) (hs.ext hX1) hc hk
      · cases hg
    · cases hg
  · cases hg
theorem inOf {α : Type} {xs : List α} {i : Int32} {x : α} (h0 : ¬ i < 0) (h : xs[i.toNatClampNeg]? = some x) : vp_in i xs.length := by
  have := (List.getElem?_eq_some_iff.mp h).1
  intro q
  rcases q with q | q
  · exact h0 q
  · omega
/-- an element of an array of whole numbers of kind kd -/
def oAld (n kd : Nat) : aF → Option (Nat × aF) := fun f => match f.2.1 with
  | .inl i :: .inr (.inr (some a)) :: r => match f.2.2.1[a]? with
    | some (.inr (kj, .inl xs)) => if kj = kd ∧ ¬ i < 0 then match xs[i.toNatClampNeg]? with
      | some x => some (n, f.1, .inl x :: r, f.2.2)
      | none => none else none
    | _ => none
  | _ => none
def oAldJ (n : Nat) : aF → Option (Nat × aF) := fun f => match f.2.1 with
  | .inl i :: .inr (.inr (some a)) :: r => match f.2.2.1[a]? with
    | some (.inr (kj, .inr (.inl xs))) => if kj = 4 ∧ ¬ i < 0 then match xs[i.toNatClampNeg]? with
      | some x => some (n, f.1, .inr (.inl x) :: r, f.2.2)
      | none => none else none
    | _ => none
  | _ => none
def oAldA (n kd : Nat) : aF → Option (Nat × aF) := fun f => match f.2.1 with
  | .inl i :: .inr (.inr (some a)) :: r => match f.2.2.1[a]? with
    | some (.inr (kj, .inr (.inr xs))) => if kj = kd ∧ ¬ i < 0 then match xs[i.toNatClampNeg]? with
      | some x => some (n, f.1, .inr (.inr x) :: r, f.2.2)
      | none => none else none
    | _ => none
  | _ => none
def oAst (n kd : Nat) (nar : Int32 → Int32) : aF → Option (Nat × aF) := fun f => match f.2.1 with
  | .inl x :: .inl i :: .inr (.inr (some a)) :: r => match f.2.2.1[a]? with
    | some (.inr (kj, .inl xs)) => if kj = kd ∧ ¬ i < 0 ∧ i.toNatClampNeg < xs.length then some (n, f.1, r, f.2.2.1.set a (.inr (kj, .inl (xs.set i.toNatClampNeg (nar x)))), f.2.2.2) else none
    | _ => none
  | _ => none
def oAstJ (n : Nat) : aF → Option (Nat × aF) := fun f => match f.2.1 with
  | .inr (.inl x) :: .inl i :: .inr (.inr (some a)) :: r => match f.2.2.1[a]? with
    | some (.inr (kj, .inr (.inl xs))) => if kj = 4 ∧ ¬ i < 0 ∧ i.toNatClampNeg < xs.length then some (n, f.1, r, f.2.2.1.set a (.inr (kj, .inr (.inl (xs.set i.toNatClampNeg x)))), f.2.2.2) else none
    | _ => none
  | _ => none
/-- an element of an array of objects of class ci becomes an object -/
def oAstA (n kd ci : Nat) : aF → Option (Nat × aF) := fun f => match f.2.1 with
  | .inr (.inr (some v)) :: .inl i :: .inr (.inr (some a)) :: r => match f.2.2.1[a]?, f.2.2.1[v]? with
    | some (.inr (kj, .inr (.inr xs))), some (.inl (cj, _)) => if (kj = kd ∧ cj = ci) ∧ ¬ i < 0 ∧ i.toNatClampNeg < xs.length then some (n, f.1, r, f.2.2.1.set a (.inr (kj, .inr (.inr (xs.set i.toNatClampNeg (some v))))), f.2.2.2) else none
    | _, _ => none
  | _ => none
def aLen (x : aArr) : Nat := match x with
  | .inl xs => xs.length
  | .inr (.inl xs) => xs.length
  | .inr (.inr xs) => xs.length
def oLen (n : Nat) : aF → Option (Nat × aF) := fun f => match f.2.1 with
  | .inr (.inr (some a)) :: r => match f.2.2.1[a]? with
    | some (.inr (_, x)) => some (n, f.1, .inl (Int32.ofNat (aLen x)) :: r, f.2.2)
    | _ => none
  | _ => none
theorem aLen_ok {ws : va_W} {x : aArr} {y : vp_A} (h : rA ws x y) : y.1 = aLen x := by
  match x, h with
  | .inl xs, h => obtain ⟨f, rfl, -⟩ := h; rfl
  | .inr (.inl xs), h => obtain ⟨f, rfl, -⟩ := h; rfl
  | .inr (.inr xs), h => obtain ⟨f, rfl, -⟩ := h; rfl
theorem rO.rf {ws : va_W} {o x : Option Nat} (h : rO ws o x) : rV ws (.inr (.inr o)) (va_rf x) := by
  match o, h with
  | none, h => rw [show x = none from h]; rfl
  | some k, h =>
    obtain ⟨a, e, h1, rfl⟩ := h
    exact ⟨a, e, h1, rfl⟩
theorem lx_aldg {p : Program} {l : Launch} {e : Env} {R : Room} {s : State} {m : MethodId} {args : Array Value} {below : List Frame} {meth : Method} {c : Code} {H : Heap} {locs : List Loc} {cells slots : Nat} {Q : State → Prop} {ls : Array Slot} {rest : List Value} {D : va_G} {cl : List vw_C} {a : Nat} {tys : List (ClassId × FieldType)} {ws : va_W} (hexec : p.tables.exec = Jvm.exec) (hb : c.code = cc) (hK : va_K D cl tys s) (hP : va_P D cl ws H) (q0 t0 : Nat) {cA : ClassId} {ty : FieldType} {n : Nat} {f : Nat → Option Nat} (ha : ws[q0]? = some (a, .inl (cA, n, .inr (.inr (.inr (.inr f)))))) (ht : tys[t0]? = some (cA, .array ty)) {i : Int32} (hin : vp_in i n) (hdg : decode cc pc = .ok (.aaload, 1))
    (kk : W p l e R s m args below meth c H locs cells slots Q (F0 m (pc + 1) ls (va_rf (f i.toNatClampNeg) :: rest))) : W p l e R s m args below meth c H locs cells slots Q (F0 m pc ls (.int i :: .ref a :: rest)) := by
  have hlt : i.toNatClampNeg < n := Nat.not_le.mp fun q => hin (Or.inr q)
  exact W.aald (v := va_rf (f i.toNatClampNeg)) (ty := .array ty) hexec hb (hP q0 _ ha) ((hK.2 t0 _ ht).1 n (fun j => va_rf (f j))) rfl (fun q => by cases q) (by show ¬ (i < 0 ∨ (arrV _ _ _).slots.size ≤ _); rw [arrV_size]; exact hin) (by show (arrV _ _ _).slots[_]? = _; rw [arrV_read _ _ hlt]) rfl rfl hdg kk
theorem s_iaload (hd : decode cc pc = .ok (.iaload, 1)) : SndF own cc nL ini pc (oAld (pc + 1) 0) := by
  intro p l e R s m args below meth c D tys A H0 w0 Q hx f pc' f' hg kk
  intro H locs cells slots ls st ws hP hD hS hX hH hL hs hc hk
  unfold oAld at hg
  split at hg
  · rename_i i a r hi
    split at hg
    · rename_i kj xs ha
      split at hg
      · rename_i hkd
        split at hg
        · rename_i x hxi
          cases hg
          obtain ⟨rfl, h0⟩ := hkd
          rw [hi] at hs
          obtain ⟨u, us, rfl, hv, hs⟩ := hs
          obtain ⟨u2, us, rfl, hv2, hs⟩ := hs
          cases hv
          obtain ⟨b, cA, ty, y, rfl, h1, h2, h3⟩ := hH.arr ha hv2
          obtain ⟨g, rfl, h4⟩ := h3
          have h5 := tyOf hx.2.2.2.2.2.2.1 h2
          cases h5
          refine va_iald hx.1 hx.2.1 hx.2.2.2.2.2.1 hP a _ h1 h2 (inOf h0 hxi) hd ?_
          rw [h4 _ _ hxi]
          exact kk H locs cells slots ls _ ws hP hD hS hX hH hL ⟨_, us, rfl, rfl, hs⟩ hc hk
        · cases hg
      · cases hg
    · cases hg
  · cases hg
theorem s_baload1 (hd : decode cc pc = .ok (.baload, 1)) : SndF own cc nL ini pc (oAld (pc + 1) 1) := by
  intro p l e R s m args below meth c D tys A H0 w0 Q hx f pc' f' hg kk
  intro H locs cells slots ls st ws hP hD hS hX hH hL hs hc hk
  unfold oAld at hg
  split at hg
  · rename_i i a r hi
    split at hg
    · rename_i kj xs ha
      split at hg
      · rename_i hkd
        split at hg
        · rename_i x hxi
          cases hg
          obtain ⟨rfl, h0⟩ := hkd
          rw [hi] at hs
          obtain ⟨u, us, rfl, hv, hs⟩ := hs
          obtain ⟨u2, us, rfl, hv2, hs⟩ := hs
          cases hv
          obtain ⟨b, cA, ty, y, rfl, h1, h2, h3⟩ := hH.arr ha hv2
          obtain ⟨g, rfl, h4⟩ := h3
          have h5 := tyOf hx.2.2.2.2.2.2.1 h2
          cases h5
          refine va_bald hx.1 hx.2.1 hx.2.2.2.2.2.1 hP a _ h1 h2 (inOf h0 hxi) hd ?_
          rw [h4 _ _ hxi]
          exact kk H locs cells slots ls _ ws hP hD hS hX hH hL ⟨_, us, rfl, rfl, hs⟩ hc hk
        · cases hg
      · cases hg
    · cases hg
  · cases hg
theorem s_saload (hd : decode cc pc = .ok (.saload, 1)) : SndF own cc nL ini pc (oAld (pc + 1) 2) := by
  intro p l e R s m args below meth c D tys A H0 w0 Q hx f pc' f' hg kk
  intro H locs cells slots ls st ws hP hD hS hX hH hL hs hc hk
  unfold oAld at hg
  split at hg
  · rename_i i a r hi
    split at hg
    · rename_i kj xs ha
      split at hg
      · rename_i hkd
        split at hg
        · rename_i x hxi
          cases hg
          obtain ⟨rfl, h0⟩ := hkd
          rw [hi] at hs
          obtain ⟨u, us, rfl, hv, hs⟩ := hs
          obtain ⟨u2, us, rfl, hv2, hs⟩ := hs
          cases hv
          obtain ⟨b, cA, ty, y, rfl, h1, h2, h3⟩ := hH.arr ha hv2
          obtain ⟨g, rfl, h4⟩ := h3
          have h5 := tyOf hx.2.2.2.2.2.2.1 h2
          cases h5
          refine va_sald hx.1 hx.2.1 hx.2.2.2.2.2.1 hP a _ h1 h2 (inOf h0 hxi) hd ?_
          rw [h4 _ _ hxi]
          exact kk H locs cells slots ls _ ws hP hD hS hX hH hL ⟨_, us, rfl, rfl, hs⟩ hc hk
        · cases hg
      · cases hg
    · cases hg
  · cases hg
theorem s_baload3 (hd : decode cc pc = .ok (.baload, 1)) : SndF own cc nL ini pc (oAld (pc + 1) 3) := by
  intro p l e R s m args below meth c D tys A H0 w0 Q hx f pc' f' hg kk
  intro H locs cells slots ls st ws hP hD hS hX hH hL hs hc hk
  unfold oAld at hg
  split at hg
  · rename_i i a r hi
    split at hg
    · rename_i kj xs ha
      split at hg
      · rename_i hkd
        split at hg
        · rename_i x hxi
          cases hg
          obtain ⟨rfl, h0⟩ := hkd
          rw [hi] at hs
          obtain ⟨u, us, rfl, hv, hs⟩ := hs
          obtain ⟨u2, us, rfl, hv2, hs⟩ := hs
          cases hv
          obtain ⟨b, cA, ty, y, rfl, h1, h2, h3⟩ := hH.arr ha hv2
          obtain ⟨g, rfl, h4⟩ := h3
          have h5 := tyOf hx.2.2.2.2.2.2.1 h2
          cases h5
          refine va_zald hx.1 hx.2.1 hx.2.2.2.2.2.1 hP a _ h1 h2 (inOf h0 hxi) hd ?_
          rw [h4 _ _ hxi]
          exact kk H locs cells slots ls _ ws hP hD hS hX hH hL ⟨_, us, rfl, rfl, hs⟩ hc hk
        · cases hg
      · cases hg
    · cases hg
  · cases hg
theorem s_laload (hd : decode cc pc = .ok (.laload, 1)) : SndF own cc nL ini pc (oAldJ (pc + 1)) := by
  intro p l e R s m args below meth c D tys A H0 w0 Q hx f pc' f' hg kk
  intro H locs cells slots ls st ws hP hD hS hX hH hL hs hc hk
  unfold oAldJ at hg
  split at hg
  · rename_i i a r hi
    split at hg
    · rename_i kj xs ha
      split at hg
      · rename_i hkd
        split at hg
        · rename_i x hxi
          cases hg
          obtain ⟨rfl, h0⟩ := hkd
          rw [hi] at hs
          obtain ⟨u, us, rfl, hv, hs⟩ := hs
          obtain ⟨u2, us, rfl, hv2, hs⟩ := hs
          cases hv
          obtain ⟨b, cA, ty, y, rfl, h1, h2, h3⟩ := hH.arr ha hv2
          obtain ⟨g, rfl, h4⟩ := h3
          have h5 := tyOf hx.2.2.2.2.2.2.1 h2
          cases h5
          refine va_lald hx.1 hx.2.1 hx.2.2.2.2.2.1 hP a _ h1 h2 (inOf h0 hxi) hd ?_
          rw [h4 _ _ hxi]
          exact kk H locs cells slots ls _ ws hP hD hS hX hH hL ⟨_, us, rfl, rfl, hs⟩ hc hk
        · cases hg
      · cases hg
    · cases hg
  · cases hg
theorem s_aaload5 (hd : decode cc pc = .ok (.aaload, 1)) : SndF own cc nL ini pc (oAldA (pc + 1) 5) := by
  intro p l e R s m args below meth c D tys A H0 w0 Q hx f pc' f' hg kk
  intro H locs cells slots ls st ws hP hD hS hX hH hL hs hc hk
  unfold oAldA at hg
  split at hg
  · rename_i i a r hi
    split at hg
    · rename_i kj xs ha
      split at hg
      · rename_i hkd
        split at hg
        · rename_i x hxi
          cases hg
          obtain ⟨rfl, h0⟩ := hkd
          rw [hi] at hs
          obtain ⟨u, us, rfl, hv, hs⟩ := hs
          obtain ⟨u2, us, rfl, hv2, hs⟩ := hs
          cases hv
          obtain ⟨b, cA, ty, y, rfl, h1, h2, h3⟩ := hH.arr ha hv2
          obtain ⟨g, rfl, h4⟩ := h3
          have h5 := tyOf hx.2.2.2.2.2.2.1 h2
          cases h5
          refine va_aldq hx.1 hx.2.1 hx.2.2.2.2.2.1 hP a _ h1 h2 (inOf h0 hxi) hd ?_
          have h6 := h4 _ _ hxi
          exact kk H locs cells slots ls _ ws hP hD hS hX hH hL ⟨_, us, rfl, rO.rf h6, hs⟩ hc hk
        · cases hg
      · cases hg
    · cases hg
  · cases hg
theorem s_aaload6 (hd : decode cc pc = .ok (.aaload, 1)) : SndF own cc nL ini pc (oAldA (pc + 1) 6) := by
  intro p l e R s m args below meth c D tys A H0 w0 Q hx f pc' f' hg kk
  intro H locs cells slots ls st ws hP hD hS hX hH hL hs hc hk
  unfold oAldA at hg
  split at hg
  · rename_i i a r hi
    split at hg
    · rename_i kj xs ha
      split at hg
      · rename_i hkd
        split at hg
        · rename_i x hxi
          cases hg
          obtain ⟨rfl, h0⟩ := hkd
          rw [hi] at hs
          obtain ⟨u, us, rfl, hv, hs⟩ := hs
          obtain ⟨u2, us, rfl, hv2, hs⟩ := hs
          cases hv
          obtain ⟨b, cA, ty, y, rfl, h1, h2, h3⟩ := hH.arr ha hv2
          obtain ⟨g, rfl, h4⟩ := h3
          have h5 := tyOf hx.2.2.2.2.2.2.1 h2
          cases h5
          refine va_aldq hx.1 hx.2.1 hx.2.2.2.2.2.1 hP a _ h1 h2 (inOf h0 hxi) hd ?_
          have h6 := h4 _ _ hxi
          exact kk H locs cells slots ls _ ws hP hD hS hX hH hL ⟨_, us, rfl, rO.rf h6, hs⟩ hc hk
        · cases hg
      · cases hg
    · cases hg
  · cases hg
theorem s_aaload7 (hd : decode cc pc = .ok (.aaload, 1)) : SndF own cc nL ini pc (oAldA (pc + 1) 7) := by
  intro p l e R s m args below meth c D tys A H0 w0 Q hx f pc' f' hg kk
  intro H locs cells slots ls st ws hP hD hS hX hH hL hs hc hk
  unfold oAldA at hg
  split at hg
  · rename_i i a r hi
    split at hg
    · rename_i kj xs ha
      split at hg
      · rename_i hkd
        split at hg
        · rename_i x hxi
          cases hg
          obtain ⟨rfl, h0⟩ := hkd
          rw [hi] at hs
          obtain ⟨u, us, rfl, hv, hs⟩ := hs
          obtain ⟨u2, us, rfl, hv2, hs⟩ := hs
          cases hv
          obtain ⟨b, cA, ty, y, rfl, h1, h2, h3⟩ := hH.arr ha hv2
          obtain ⟨g, rfl, h4⟩ := h3
          have h5 := tyOf hx.2.2.2.2.2.2.1 h2
          cases h5
          refine va_aldq hx.1 hx.2.1 hx.2.2.2.2.2.1 hP a _ h1 h2 (inOf h0 hxi) hd ?_
          have h6 := h4 _ _ hxi
          exact kk H locs cells slots ls _ ws hP hD hS hX hH hL ⟨_, us, rfl, rO.rf h6, hs⟩ hc hk
        · cases hg
      · cases hg
    · cases hg
  · cases hg
theorem s_aaload8 (hd : decode cc pc = .ok (.aaload, 1)) : SndF own cc nL ini pc (oAldA (pc + 1) 8) := by
  intro p l e R s m args below meth c D tys A H0 w0 Q hx f pc' f' hg kk
  intro H locs cells slots ls st ws hP hD hS hX hH hL hs hc hk
  unfold oAldA at hg
  split at hg
  · rename_i i a r hi
    split at hg
    · rename_i kj xs ha
      split at hg
      · rename_i hkd
        split at hg
        · rename_i x hxi
          cases hg
          obtain ⟨rfl, h0⟩ := hkd
          rw [hi] at hs
          obtain ⟨u, us, rfl, hv, hs⟩ := hs
          obtain ⟨u2, us, rfl, hv2, hs⟩ := hs
          cases hv
          obtain ⟨b, cA, ty, y, rfl, h1, h2, h3⟩ := hH.arr ha hv2
          obtain ⟨g, rfl, h4⟩ := h3
          have h5 := tyOf hx.2.2.2.2.2.2.1 h2
          cases h5
          refine lx_aldg hx.1 hx.2.1 hx.2.2.2.2.2.1 hP a _ h1 h2 (inOf h0 hxi) hd ?_
          have h6 := h4 _ _ hxi
          exact kk H locs cells slots ls _ ws hP hD hS hX hH hL ⟨_, us, rfl, rO.rf h6, hs⟩ hc hk
        · cases hg
      · cases hg
    · cases hg
  · cases hg
theorem s_iastore (hd : decode cc pc = .ok (.iastore, 1)) : SndF own cc nL ini pc (oAst (pc + 1) 0 (fun x => x)) := by
  intro p l e R s m args below meth c D tys A H0 w0 Q hx f pc' f' hg kk
  intro H locs cells slots ls st ws hP hD hS hX hH hL hs hc hk
  unfold oAst at hg
  split at hg
  · rename_i x i a r hi
    split at hg
    · rename_i kj xs ha
      split at hg
      · rename_i hkd
        cases hg
        obtain ⟨rfl, h0, hlt⟩ := hkd
        rw [hi] at hs
        obtain ⟨u, us, rfl, hv, hs⟩ := hs
        obtain ⟨u2, us, rfl, hv2, hs⟩ := hs
        obtain ⟨u3, us, rfl, hv3, hs⟩ := hs
        cases hv
        cases hv2
        obtain ⟨b, cA, ty, y, rfl, h1, h2, h3⟩ := hH.arr ha hv3
        obtain ⟨g, rfl, h4⟩ := h3
        have h5 := tyOf hx.2.2.2.2.2.2.1 h2
        cases h5
        refine va_iast hx.1 hx.2.1 hx.2.2.2.2.2.1 hP hD hS a _ h1 h2 (fun q => q.elim h0 (fun q => by omega)) hd (fun H1 locs1 hP hD hS => ?_)
        have hX1 := rX.set (e' := .inl (cA, xs.length, .inl (upd g i.toNatClampNeg x))) h1
        refine kk H1 locs1 cells slots ls us _ hP hD hS (hX.tr hX1) (hH.set h1 ⟨cA, _, _, rfl, h2, _, by rw [List.length_set], fun j y hj => ?_⟩) (hL.ext hX1) (hs.ext hX1) hc hk
        by_cases q : i.toNatClampNeg = j
        · subst q
          rw [List.getElem?_set_self hlt] at hj
          cases hj
          simp [upd]
        · rw [List.getElem?_set_ne q] at hj
          rw [← h4 j y hj]
          simp [upd, Ne.symm q]
      · cases hg
    · cases hg
  · cases hg
theorem s_bastore1 (hd : decode cc pc = .ok (.bastore, 1)) : SndF own cc nL ini pc (oAst (pc + 1) 1 (fun x => vp_nar .byte x)) := by
  intro p l e R s m args below meth c D tys A H0 w0 Q hx f pc' f' hg kk
  intro H locs cells slots ls st ws hP hD hS hX hH hL hs hc hk
  unfold oAst at hg
  split at hg
  · rename_i x i a r hi
    split at hg
    · rename_i kj xs ha
      split at hg
      · rename_i hkd
        cases hg
        obtain ⟨rfl, h0, hlt⟩ := hkd
        rw [hi] at hs
        obtain ⟨u, us, rfl, hv, hs⟩ := hs
        obtain ⟨u2, us, rfl, hv2, hs⟩ := hs
        obtain ⟨u3, us, rfl, hv3, hs⟩ := hs
        cases hv
        cases hv2
        obtain ⟨b, cA, ty, y, rfl, h1, h2, h3⟩ := hH.arr ha hv3
        obtain ⟨g, rfl, h4⟩ := h3
        have h5 := tyOf hx.2.2.2.2.2.2.1 h2
        cases h5
        refine va_bast hx.1 hx.2.1 hx.2.2.2.2.2.1 hP hD hS a _ h1 h2 (fun q => q.elim h0 (fun q => by omega)) hd (fun H1 locs1 hP hD hS => ?_)
        have hX1 := rX.set (e' := .inl (cA, xs.length, .inl (upd g i.toNatClampNeg (vp_nar .byte x)))) h1
        refine kk H1 locs1 cells slots ls us _ hP hD hS (hX.tr hX1) (hH.set h1 ⟨cA, _, _, rfl, h2, _, by rw [List.length_set], fun j y hj => ?_⟩) (hL.ext hX1) (hs.ext hX1) hc hk
        by_cases q : i.toNatClampNeg = j
        · subst q
          rw [List.getElem?_set_self hlt] at hj
          cases hj
          simp [upd]
        · rw [List.getElem?_set_ne q] at hj
          rw [← h4 j y hj]
          simp [upd, Ne.symm q]
      · cases hg
    · cases hg
  · cases hg
theorem s_sastore (hd : decode cc pc = .ok (.sastore, 1)) : SndF own cc nL ini pc (oAst (pc + 1) 2 (fun x => vp_nar .short x)) := by
  intro p l e R s m args below meth c D tys A H0 w0 Q hx f pc' f' hg kk
  intro H locs cells slots ls st ws hP hD hS hX hH hL hs hc hk
  unfold oAst at hg
  split at hg
  · rename_i x i a r hi
    split at hg
    · rename_i kj xs ha
      split at hg
      · rename_i hkd
        cases hg
        obtain ⟨rfl, h0, hlt⟩ := hkd
        rw [hi] at hs
        obtain ⟨u, us, rfl, hv, hs⟩ := hs
        obtain ⟨u2, us, rfl, hv2, hs⟩ := hs
        obtain ⟨u3, us, rfl, hv3, hs⟩ := hs
        cases hv
        cases hv2
        obtain ⟨b, cA, ty, y, rfl, h1, h2, h3⟩ := hH.arr ha hv3
        obtain ⟨g, rfl, h4⟩ := h3
        have h5 := tyOf hx.2.2.2.2.2.2.1 h2
        cases h5
        refine va_sast hx.1 hx.2.1 hx.2.2.2.2.2.1 hP hD hS a _ h1 h2 (fun q => q.elim h0 (fun q => by omega)) hd (fun H1 locs1 hP hD hS => ?_)
        have hX1 := rX.set (e' := .inl (cA, xs.length, .inl (upd g i.toNatClampNeg (vp_nar .short x)))) h1
        refine kk H1 locs1 cells slots ls us _ hP hD hS (hX.tr hX1) (hH.set h1 ⟨cA, _, _, rfl, h2, _, by rw [List.length_set], fun j y hj => ?_⟩) (hL.ext hX1) (hs.ext hX1) hc hk
        by_cases q : i.toNatClampNeg = j
        · subst q
          rw [List.getElem?_set_self hlt] at hj
          cases hj
          simp [upd]
        · rw [List.getElem?_set_ne q] at hj
          rw [← h4 j y hj]
          simp [upd, Ne.symm q]
      · cases hg
    · cases hg
  · cases hg
theorem s_bastore3 (hd : decode cc pc = .ok (.bastore, 1)) : SndF own cc nL ini pc (oAst (pc + 1) 3 (fun x => vp_nar .boolean x)) := by
  intro p l e R s m args below meth c D tys A H0 w0 Q hx f pc' f' hg kk
  intro H locs cells slots ls st ws hP hD hS hX hH hL hs hc hk
  unfold oAst at hg
  split at hg
  · rename_i x i a r hi
    split at hg
    · rename_i kj xs ha
      split at hg
      · rename_i hkd
        cases hg
        obtain ⟨rfl, h0, hlt⟩ := hkd
        rw [hi] at hs
        obtain ⟨u, us, rfl, hv, hs⟩ := hs
        obtain ⟨u2, us, rfl, hv2, hs⟩ := hs
        obtain ⟨u3, us, rfl, hv3, hs⟩ := hs
        cases hv
        cases hv2
        obtain ⟨b, cA, ty, y, rfl, h1, h2, h3⟩ := hH.arr ha hv3
        obtain ⟨g, rfl, h4⟩ := h3
        have h5 := tyOf hx.2.2.2.2.2.2.1 h2
        cases h5
        refine va_zast hx.1 hx.2.1 hx.2.2.2.2.2.1 hP hD hS a _ h1 h2 (fun q => q.elim h0 (fun q => by omega)) hd (fun H1 locs1 hP hD hS => ?_)
        have hX1 := rX.set (e' := .inl (cA, xs.length, .inl (upd g i.toNatClampNeg (vp_nar .boolean x)))) h1
        refine kk H1 locs1 cells slots ls us _ hP hD hS (hX.tr hX1) (hH.set h1 ⟨cA, _, _, rfl, h2, _, by rw [List.length_set], fun j y hj => ?_⟩) (hL.ext hX1) (hs.ext hX1) hc hk
        by_cases q : i.toNatClampNeg = j
        · subst q
          rw [List.getElem?_set_self hlt] at hj
          cases hj
          simp [upd]
        · rw [List.getElem?_set_ne q] at hj
          rw [← h4 j y hj]
          simp [upd, Ne.symm q]
      · cases hg
    · cases hg
  · cases hg
theorem s_lastore (hd : decode cc pc = .ok (.lastore, 1)) : SndF own cc nL ini pc (oAstJ (pc + 1)) := by
  intro p l e R s m args below meth c D tys A H0 w0 Q hx f pc' f' hg kk
  intro H locs cells slots ls st ws hP hD hS hX hH hL hs hc hk
  unfold oAstJ at hg
  split at hg
  · rename_i x i a r hi
    split at hg
    · rename_i kj xs ha
      split at hg
      · rename_i hkd
        cases hg
        obtain ⟨rfl, h0, hlt⟩ := hkd
        rw [hi] at hs
        obtain ⟨u, us, rfl, hv, hs⟩ := hs
        obtain ⟨u2, us, rfl, hv2, hs⟩ := hs
        obtain ⟨u3, us, rfl, hv3, hs⟩ := hs
        cases hv
        cases hv2
        obtain ⟨b, cA, ty, y, rfl, h1, h2, h3⟩ := hH.arr ha hv3
        obtain ⟨g, rfl, h4⟩ := h3
        have h5 := tyOf hx.2.2.2.2.2.2.1 h2
        cases h5
        refine va_last hx.1 hx.2.1 hx.2.2.2.2.2.1 hP hD hS a _ h1 h2 (fun q => q.elim h0 (fun q => by omega)) hd (fun H1 locs1 hP hD hS => ?_)
        have hX1 := rX.set (e' := .inl (cA, xs.length, .inr (.inl (vp_updL g i.toNatClampNeg x)))) h1
        refine kk H1 locs1 cells slots ls us _ hP hD hS (hX.tr hX1) (hH.set h1 ⟨cA, _, _, rfl, h2, _, by rw [List.length_set], fun j y hj => ?_⟩) (hL.ext hX1) (hs.ext hX1) hc hk
        by_cases q : i.toNatClampNeg = j
        · subst q
          rw [List.getElem?_set_self hlt] at hj
          cases hj
          simp [vp_updL]
        · rw [List.getElem?_set_ne q] at hj
          rw [← h4 j y hj]
          simp [vp_updL, Ne.symm q]
      · cases hg
    · cases hg
  · cases hg
theorem s_aastore5 (hd : decode cc pc = .ok (.aastore, 1)) : SndF own cc nL ini pc (oAstA (pc + 1) 5 2) := by
  intro p l e R s m args below meth c D tys A H0 w0 Q hx f pc' f' hg kk
  intro H locs cells slots ls st ws hP hD hS hX hH hL hs hc hk
  unfold oAstA at hg
  split at hg
  · rename_i v i a r hi
    split at hg
    · rename_i kj xs cj fs ha hv0
      split at hg
      · rename_i hkd
        cases hg
        obtain ⟨⟨rfl, rfl⟩, h0, hlt⟩ := hkd
        rw [hi] at hs
        obtain ⟨u, us, rfl, hv, hs⟩ := hs
        obtain ⟨u2, us, rfl, hv2, hs⟩ := hs
        obtain ⟨u3, us, rfl, hv3, hs⟩ := hs
        cases hv2
        obtain ⟨vb, vs, rfl, g1, g2⟩ := hH.obj hv0 hv
        obtain ⟨b, cA, ty, y, rfl, h1, h2, h3⟩ := hH.arr ha hv3
        obtain ⟨g, rfl, h4⟩ := h3
        have h5 := tyOf hx.2.2.2.2.2.2.1 h2
        cases h5
        refine va_astq (r := (RX2, TX2, 14)) hx.1 hx.2.1 hx.2.2.2.2.2.1 hP hD hS a _ v 2 h1 h2 g1 rfl (fun q => q.elim h0 (fun q => by omega)) hd (fun H1 locs1 hP hD hS => ?_)
        have hX1 := rX.set (e' := .inl (cA, xs.length, .inr (.inr (.inr (.inr (va_up g i.toNatClampNeg (some vb))))))) h1
        refine kk H1 locs1 cells slots ls us _ hP hD hS (hX.tr hX1) (hH.set h1 ⟨cA, _, _, rfl, h2, _, by rw [List.length_set], fun j y hj => ?_⟩) (hL.ext hX1) (hs.ext hX1) hc hk
        by_cases q : i.toNatClampNeg = j
        · subst q
          rw [List.getElem?_set_self hlt] at hj
          cases hj
          exact ⟨vb, _, g1, by simp [va_up]⟩
        · rw [List.getElem?_set_ne q] at hj
          have h6 := h4 j y hj
          rw [show va_up g i.toNatClampNeg (some vb) j = g j by simp [va_up, Ne.symm q]]
          exact h6
      · cases hg
    · cases hg
  · cases hg
theorem s_aastore6 (hd : decode cc pc = .ok (.aastore, 1)) : SndF own cc nL ini pc (oAstA (pc + 1) 6 9) := by
  intro p l e R s m args below meth c D tys A H0 w0 Q hx f pc' f' hg kk
  intro H locs cells slots ls st ws hP hD hS hX hH hL hs hc hk
  unfold oAstA at hg
  split at hg
  · rename_i v i a r hi
    split at hg
    · rename_i kj xs cj fs ha hv0
      split at hg
      · rename_i hkd
        cases hg
        obtain ⟨⟨rfl, rfl⟩, h0, hlt⟩ := hkd
        rw [hi] at hs
        obtain ⟨u, us, rfl, hv, hs⟩ := hs
        obtain ⟨u2, us, rfl, hv2, hs⟩ := hs
        obtain ⟨u3, us, rfl, hv3, hs⟩ := hs
        cases hv2
        obtain ⟨vb, vs, rfl, g1, g2⟩ := hH.obj hv0 hv
        obtain ⟨b, cA, ty, y, rfl, h1, h2, h3⟩ := hH.arr ha hv3
        obtain ⟨g, rfl, h4⟩ := h3
        have h5 := tyOf hx.2.2.2.2.2.2.1 h2
        cases h5
        refine va_astq (r := (RX9, TX9, 2)) hx.1 hx.2.1 hx.2.2.2.2.2.1 hP hD hS a _ v 9 h1 h2 g1 rfl (fun q => q.elim h0 (fun q => by omega)) hd (fun H1 locs1 hP hD hS => ?_)
        have hX1 := rX.set (e' := .inl (cA, xs.length, .inr (.inr (.inr (.inr (va_up g i.toNatClampNeg (some vb))))))) h1
        refine kk H1 locs1 cells slots ls us _ hP hD hS (hX.tr hX1) (hH.set h1 ⟨cA, _, _, rfl, h2, _, by rw [List.length_set], fun j y hj => ?_⟩) (hL.ext hX1) (hs.ext hX1) hc hk
        by_cases q : i.toNatClampNeg = j
        · subst q
          rw [List.getElem?_set_self hlt] at hj
          cases hj
          exact ⟨vb, _, g1, by simp [va_up]⟩
        · rw [List.getElem?_set_ne q] at hj
          have h6 := h4 j y hj
          rw [show va_up g i.toNatClampNeg (some vb) j = g j by simp [va_up, Ne.symm q]]
          exact h6
      · cases hg
    · cases hg
  · cases hg
theorem s_aastore7 (hd : decode cc pc = .ok (.aastore, 1)) : SndF own cc nL ini pc (oAstA (pc + 1) 7 10) := by
  intro p l e R s m args below meth c D tys A H0 w0 Q hx f pc' f' hg kk
  intro H locs cells slots ls st ws hP hD hS hX hH hL hs hc hk
  unfold oAstA at hg
  split at hg
  · rename_i v i a r hi
    split at hg
    · rename_i kj xs cj fs ha hv0
      split at hg
      · rename_i hkd
        cases hg
        obtain ⟨⟨rfl, rfl⟩, h0, hlt⟩ := hkd
        rw [hi] at hs
        obtain ⟨u, us, rfl, hv, hs⟩ := hs
        obtain ⟨u2, us, rfl, hv2, hs⟩ := hs
        obtain ⟨u3, us, rfl, hv3, hs⟩ := hs
        cases hv2
        obtain ⟨vb, vs, rfl, g1, g2⟩ := hH.obj hv0 hv
        obtain ⟨b, cA, ty, y, rfl, h1, h2, h3⟩ := hH.arr ha hv3
        obtain ⟨g, rfl, h4⟩ := h3
        have h5 := tyOf hx.2.2.2.2.2.2.1 h2
        cases h5
        refine va_astq (r := (RX10, TX10, 13)) hx.1 hx.2.1 hx.2.2.2.2.2.1 hP hD hS a _ v 10 h1 h2 g1 rfl (fun q => q.elim h0 (fun q => by omega)) hd (fun H1 locs1 hP hD hS => ?_)
        have hX1 := rX.set (e' := .inl (cA, xs.length, .inr (.inr (.inr (.inr (va_up g i.toNatClampNeg (some vb))))))) h1
        refine kk H1 locs1 cells slots ls us _ hP hD hS (hX.tr hX1) (hH.set h1 ⟨cA, _, _, rfl, h2, _, by rw [List.length_set], fun j y hj => ?_⟩) (hL.ext hX1) (hs.ext hX1) hc hk
        by_cases q : i.toNatClampNeg = j
        · subst q
          rw [List.getElem?_set_self hlt] at hj
          cases hj
          exact ⟨vb, _, g1, by simp [va_up]⟩
        · rw [List.getElem?_set_ne q] at hj
          have h6 := h4 j y hj
          rw [show va_up g i.toNatClampNeg (some vb) j = g j by simp [va_up, Ne.symm q]]
          exact h6
      · cases hg
    · cases hg
  · cases hg
theorem s_arraylength (hd : decode cc pc = .ok (.arraylength, 1)) : SndF own cc nL ini pc (oLen (pc + 1)) := by
  intro p l e R s m args below meth c D tys A H0 w0 Q hx f pc' f' hg kk
  intro H locs cells slots ls st ws hP hD hS hX hH hL hs hc hk
  unfold oLen at hg
  split at hg
  · rename_i a r hi
    split at hg
    · rename_i kj x ha
      cases hg
      rw [hi] at hs
      obtain ⟨u, us, rfl, hv, hs⟩ := hs
      obtain ⟨b, cA, ty, y, rfl, h1, h2, h3⟩ := hH.arr ha hv
      refine va_alen hx.1 hx.2.1 hx.2.2.2.2.2.1 hP a _ h1 h2 rfl hd ?_
      rw [aLen_ok h3]
      exact kk H locs cells slots ls _ ws hP hD hS hX hH hL ⟨_, us, rfl, rfl, hs⟩ hc hk
    · cases hg
  · cases hg
end OPH
