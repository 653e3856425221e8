/-! OPERATIONS that make cells; switches; what stands for nothing -/
section OPN
variable {own : String} {cc : ByteArray} {nL : Nat} {ini : Bool} {pc : Nat}
/-- a value without a reference, as it is -/
def c0 (v : aV) : Value := match v with
  | .inl x => .int x
  | .inr (.inl x) => .long x
  | .inr (.inr _) => .null
def aPl (v : aV) : Bool := match v with
  | .inr (.inr (some _)) => false
  | _ => true
theorem rS.plain {ws : va_W} : ∀ {vs : List aV}, vs.all aPl = true → rS ws vs (vs.map c0)
  | [], _ => rfl
  | v :: vs, h => by
    have h1 : aPl v = true ∧ vs.all aPl = true := by
      have := h
      simp only [List.all_cons, Bool.and_eq_true] at this
      exact this
    refine ⟨c0 v, vs.map c0, rfl, ?_, rS.plain h1.2⟩
    match v, h1.1 with
    | .inl x, _ => rfl
    | .inr (.inl x), _ => rfl
    | .inr (.inr none), _ => rfl
def oNew (n ci : Nat) (dfs : List aV) : aF → Option (Nat × aF) := fun f => if 1 ≤ f.2.2.2.1 ∧ dfs.length ≤ f.2.2.2.2 then some (n, f.1, .inr (.inr (some f.2.2.1.length)) :: f.2.1, f.2.2.1 ++ [.inl (ci, dfs)], f.2.2.2.1 - 1, f.2.2.2.2 - dfs.length) else none
theorem ws_new {ws : va_W} {q : Nat} {e : va_E} {n : Nat} (h : ws.length = n) : (ws ++ [(q, e)])[n]? = some (q, e) := by
  subst h
  rw [List.getElem?_append_right (Nat.le_refl _), Nat.sub_self]
  rfl
theorem s_new {C : String} {T : u_T} {N ci index : Nat} {dfs : List aV} (hin : ∀ w ∈ u_ws C T N, w ∈ wG) (ty : Nat → FieldType) (hty : ∀ k, k < N → parseFieldDescriptor (T k).2.2.1 = some (ty k)) (hcl : vwCl[ci]? = some (C, T, N)) (hw1 : Cond.classLink own index C ∈ wG) (hw2 : Cond.instantiable C N ∈ wG) (hw3 : Cond.initialized C ∈ wG) (hpl : dfs.all aPl = true) (hN : dfs.length = N) (hfs : ∀ j, j < N → defaultValue (ty j) = vp_V (dfs.map c0) j) (hd : decode cc pc = .ok (.new index, 3)) : SndF own cc nL ini pc (oNew (pc + 3) ci dfs) := by
  intro p l e R s m args below meth c D tys A H0 w0 Q hx f pc' f' hg kk
  intro H locs cells slots ls st ws hP hD hS hX hH hL hs hc hk
  unfold oNew at hg
  split at hg
  · rename_i hb
    cases hg
    refine va_new hx.1 hx.2.1 hx.2.2.2.2.1 hin ty hty hx.2.2.2.1 (hx.2.2.2.2.1 _ hw1) (hx.2.2.2.2.1 _ hw2) (hx.2.2.2.2.1 _ hw3) hx.2.2.2.2.2.1 hP hD hS hx.2.2.2.2.2.2.2.1 hcl (fs := dfs.map c0) hfs (by omega) (by omega) hd (fun q H1 hP hD hS => ?_)
    have hX1 : rX ws (ws ++ [(q, .inr (ci, dfs.map c0))]) := rX.push
    exact kk H1 locs (cells + 1) (slots + N) ls _ _ hP hD hS (hX.tr hX1) (hH.push ⟨_, rfl, rS.plain hpl⟩) (hL.ext hX1) ⟨_, st, rfl, ⟨q, _, ws_new hH.1, rfl⟩, hs.ext hX1⟩ (by show cells + 1 + (f.2.2.2.1 - 1) = R.cells; omega) (by show slots + N + (f.2.2.2.2 - dfs.length) = R.slots; omega)
  · cases hg
/-- an array of whole numbers of kind kd comes -/
def oNewI (n kd : Nat) : aF → Option (Nat × aF) := fun f => match f.2.1 with
  | .inl i :: r => if ¬ i < 0 ∧ i.toNatClampNeg ≤ 60000 ∧ 1 ≤ f.2.2.2.1 ∧ i.toNatClampNeg ≤ f.2.2.2.2 then some (n, f.1, .inr (.inr (some f.2.2.1.length)) :: r, f.2.2.1 ++ [.inr (kd, .inl (List.replicate i.toNatClampNeg 0))], f.2.2.2.1 - 1, f.2.2.2.2 - i.toNatClampNeg) else none
  | _ => none
def oNewJ (n : Nat) : aF → Option (Nat × aF) := fun f => match f.2.1 with
  | .inl i :: r => if ¬ i < 0 ∧ i.toNatClampNeg ≤ 60000 ∧ 1 ≤ f.2.2.2.1 ∧ i.toNatClampNeg ≤ f.2.2.2.2 then some (n, f.1, .inr (.inr (some f.2.2.1.length)) :: r, f.2.2.1 ++ [.inr (4, .inr (.inl (List.replicate i.toNatClampNeg 0)))], f.2.2.2.1 - 1, f.2.2.2.2 - i.toNatClampNeg) else none
  | _ => none
def oNewA (n kd : Nat) : aF → Option (Nat × aF) := fun f => match f.2.1 with
  | .inl i :: r => if ¬ i < 0 ∧ i.toNatClampNeg ≤ 60000 ∧ 1 ≤ f.2.2.2.1 ∧ i.toNatClampNeg ≤ f.2.2.2.2 then some (n, f.1, .inr (.inr (some f.2.2.1.length)) :: r, f.2.2.1 ++ [.inr (kd, .inr (.inr (List.replicate i.toNatClampNeg none)))], f.2.2.2.1 - 1, f.2.2.2.2 - i.toNatClampNeg) else none
  | _ => none
theorem rep_at {α : Type} {n j : Nat} {a y : α} (h : (List.replicate n a)[j]? = some y) : y = a := by
  rw [List.getElem?_replicate] at h
  split at h
  · cases h; rfl
  · cases h
theorem K_new {D : va_G} {tys : List (ClassId × FieldType)} {s : State} {cA : ClassId} {ty : FieldType} (hK : va_K D vwCl (tys ++ [(cA, ty)]) s) : va_RA s cA ty := (hK.2 tys.length (cA, ty) (by rw [List.getElem?_append_right (Nat.le_refl _), Nat.sub_self]; rfl)).2
theorem s_newI (hw : Cond.arrayClass .int ∈ wG) (hd : decode cc pc = .ok (.newarray .int, 2)) : SndF own cc nL ini pc (oNewI (pc + 2) 0) := by
  intro p l e R s m args below meth c D tys A H0 w0 Q hx f pc' f' hg kk
  intro H locs cells slots ls st ws hP hD hS hX hH hL hs hc hk
  unfold oNewI at hg
  split at hg
  · rename_i i r hi
    split at hg
    · rename_i hb
      cases hg
      rw [hi] at hs
      obtain ⟨u, us, rfl, hv, hs⟩ := hs
      cases hv
      obtain ⟨cB, hB⟩ := tyIs hx.2.2.2.2.2.2.1 (k := 0) rfl
      refine va_newa (atype := .int) (a0 := (i.toNatClampNeg, .inl (fun _ => 0))) (ty := .int) hx.1 hx.2.1 (hx.2.2.2.2.1 _ hw) rfl hx.2.2.2.2.2.1 hP hD hS hx.2.2.2.2.2.2.2.1 (fun _ => rfl) hb.1 rfl (by show i.toNatClampNeg * _ ≤ _; have := hb.2.1; simp only [componentBytes]; omega) (by omega) (by omega) hd (fun q cA H1 hK1 hP hD hS => ?_)
      have e1 : s.vm.findClass _ = some cA := K_new hK1
      have e2 : s.vm.findClass _ = some cB := (hx.2.2.2.2.2.1.2 _ _ hB).2
      have e3 : cA = cB := Option.some.inj (e1.symm.trans e2)
      subst e3
      have hX1 := rX.push (ws := ws) (x := (q, .inl (cA, i.toNatClampNeg, .inl (fun _ => 0))))
      exact kk H1 locs (cells + 1) (slots + i.toNatClampNeg) ls _ _ hP hD hS (hX.tr hX1) (hH.push ⟨cA, _, _, rfl, hB, _, by rw [List.length_replicate], fun j y hj => (rep_at hj).symm⟩) (hL.ext hX1) ⟨_, us, rfl, ⟨q, _, ws_new hH.1, rfl⟩, hs.ext hX1⟩ (by show cells + 1 + (f.2.2.2.1 - 1) = R.cells; omega) (by show slots + i.toNatClampNeg + (f.2.2.2.2 - i.toNatClampNeg) = R.slots; omega)
    · cases hg
  · cases hg
theorem s_newB (hw : Cond.arrayClass .byte ∈ wG) (hd : decode cc pc = .ok (.newarray .byte, 2)) : SndF own cc nL ini pc (oNewI (pc + 2) 1) := by
  intro p l e R s m args below meth c D tys A H0 w0 Q hx f pc' f' hg kk
  intro H locs cells slots ls st ws hP hD hS hX hH hL hs hc hk
  unfold oNewI at hg
  split at hg
  · rename_i i r hi
    split at hg
    · rename_i hb
      cases hg
      rw [hi] at hs
      obtain ⟨u, us, rfl, hv, hs⟩ := hs
      cases hv
      obtain ⟨cB, hB⟩ := tyIs hx.2.2.2.2.2.2.1 (k := 1) rfl
      refine va_newa (atype := .byte) (a0 := (i.toNatClampNeg, .inl (fun _ => 0))) (ty := .byte) hx.1 hx.2.1 (hx.2.2.2.2.1 _ hw) rfl hx.2.2.2.2.2.1 hP hD hS hx.2.2.2.2.2.2.2.1 (fun _ => rfl) hb.1 rfl (by show i.toNatClampNeg * _ ≤ _; have := hb.2.1; simp only [componentBytes]; omega) (by omega) (by omega) hd (fun q cA H1 hK1 hP hD hS => ?_)
      have e1 : s.vm.findClass _ = some cA := K_new hK1
      have e2 : s.vm.findClass _ = some cB := (hx.2.2.2.2.2.1.2 _ _ hB).2
      have e3 : cA = cB := Option.some.inj (e1.symm.trans e2)
      subst e3
      have hX1 := rX.push (ws := ws) (x := (q, .inl (cA, i.toNatClampNeg, .inl (fun _ => 0))))
      exact kk H1 locs (cells + 1) (slots + i.toNatClampNeg) ls _ _ hP hD hS (hX.tr hX1) (hH.push ⟨cA, _, _, rfl, hB, _, by rw [List.length_replicate], fun j y hj => (rep_at hj).symm⟩) (hL.ext hX1) ⟨_, us, rfl, ⟨q, _, ws_new hH.1, rfl⟩, hs.ext hX1⟩ (by show cells + 1 + (f.2.2.2.1 - 1) = R.cells; omega) (by show slots + i.toNatClampNeg + (f.2.2.2.2 - i.toNatClampNeg) = R.slots; omega)
    · cases hg
  · cases hg
theorem s_newS (hw : Cond.arrayClass .short ∈ wG) (hd : decode cc pc = .ok (.newarray .short, 2)) : SndF own cc nL ini pc (oNewI (pc + 2) 2) := by
  intro p l e R s m args below meth c D tys A H0 w0 Q hx f pc' f' hg kk
  intro H locs cells slots ls st ws hP hD hS hX hH hL hs hc hk
  unfold oNewI at hg
  split at hg
  · rename_i i r hi
    split at hg
    · rename_i hb
      cases hg
      rw [hi] at hs
      obtain ⟨u, us, rfl, hv, hs⟩ := hs
      cases hv
      obtain ⟨cB, hB⟩ := tyIs hx.2.2.2.2.2.2.1 (k := 2) rfl
      refine va_newa (atype := .short) (a0 := (i.toNatClampNeg, .inl (fun _ => 0))) (ty := .short) hx.1 hx.2.1 (hx.2.2.2.2.1 _ hw) rfl hx.2.2.2.2.2.1 hP hD hS hx.2.2.2.2.2.2.2.1 (fun _ => rfl) hb.1 rfl (by show i.toNatClampNeg * _ ≤ _; have := hb.2.1; simp only [componentBytes]; omega) (by omega) (by omega) hd (fun q cA H1 hK1 hP hD hS => ?_)
      have e1 : s.vm.findClass _ = some cA := K_new hK1
      have e2 : s.vm.findClass _ = some cB := (hx.2.2.2.2.2.1.2 _ _ hB).2
      have e3 : cA = cB := Option.some.inj (e1.symm.trans e2)
      subst e3
      have hX1 := rX.push (ws := ws) (x := (q, .inl (cA, i.toNatClampNeg, .inl (fun _ => 0))))
      exact kk H1 locs (cells + 1) (slots + i.toNatClampNeg) ls _ _ hP hD hS (hX.tr hX1) (hH.push ⟨cA, _, _, rfl, hB, _, by rw [List.length_replicate], fun j y hj => (rep_at hj).symm⟩) (hL.ext hX1) ⟨_, us, rfl, ⟨q, _, ws_new hH.1, rfl⟩, hs.ext hX1⟩ (by show cells + 1 + (f.2.2.2.1 - 1) = R.cells; omega) (by show slots + i.toNatClampNeg + (f.2.2.2.2 - i.toNatClampNeg) = R.slots; omega)
    · cases hg
  · cases hg
theorem s_newZ (hw : Cond.arrayClass .boolean ∈ wG) (hd : decode cc pc = .ok (.newarray .boolean, 2)) : SndF own cc nL ini pc (oNewI (pc + 2) 3) := by
  intro p l e R s m args below meth c D tys A H0 w0 Q hx f pc' f' hg kk
  intro H locs cells slots ls st ws hP hD hS hX hH hL hs hc hk
  unfold oNewI at hg
  split at hg
  · rename_i i r hi
    split at hg
    · rename_i hb
      cases hg
      rw [hi] at hs
      obtain ⟨u, us, rfl, hv, hs⟩ := hs
      cases hv
      obtain ⟨cB, hB⟩ := tyIs hx.2.2.2.2.2.2.1 (k := 3) rfl
      refine va_newa (atype := .boolean) (a0 := (i.toNatClampNeg, .inl (fun _ => 0))) (ty := .boolean) hx.1 hx.2.1 (hx.2.2.2.2.1 _ hw) rfl hx.2.2.2.2.2.1 hP hD hS hx.2.2.2.2.2.2.2.1 (fun _ => rfl) hb.1 rfl (by show i.toNatClampNeg * _ ≤ _; have := hb.2.1; simp only [componentBytes]; omega) (by omega) (by omega) hd (fun q cA H1 hK1 hP hD hS => ?_)
      have e1 : s.vm.findClass _ = some cA := K_new hK1
      have e2 : s.vm.findClass _ = some cB := (hx.2.2.2.2.2.1.2 _ _ hB).2
      have e3 : cA = cB := Option.some.inj (e1.symm.trans e2)
      subst e3
      have hX1 := rX.push (ws := ws) (x := (q, .inl (cA, i.toNatClampNeg, .inl (fun _ => 0))))
      exact kk H1 locs (cells + 1) (slots + i.toNatClampNeg) ls _ _ hP hD hS (hX.tr hX1) (hH.push ⟨cA, _, _, rfl, hB, _, by rw [List.length_replicate], fun j y hj => (rep_at hj).symm⟩) (hL.ext hX1) ⟨_, us, rfl, ⟨q, _, ws_new hH.1, rfl⟩, hs.ext hX1⟩ (by show cells + 1 + (f.2.2.2.1 - 1) = R.cells; omega) (by show slots + i.toNatClampNeg + (f.2.2.2.2 - i.toNatClampNeg) = R.slots; omega)
    · cases hg
  · cases hg
theorem s_newJ (hw : Cond.arrayClass .long ∈ wG) (hd : decode cc pc = .ok (.newarray .long, 2)) : SndF own cc nL ini pc (oNewJ (pc + 2)) := by
  intro p l e R s m args below meth c D tys A H0 w0 Q hx f pc' f' hg kk
  intro H locs cells slots ls st ws hP hD hS hX hH hL hs hc hk
  unfold oNewJ at hg
  split at hg
  · rename_i i r hi
    split at hg
    · rename_i hb
      cases hg
      rw [hi] at hs
      obtain ⟨u, us, rfl, hv, hs⟩ := hs
      cases hv
      obtain ⟨cB, hB⟩ := tyIs hx.2.2.2.2.2.2.1 (k := 4) rfl
      refine va_newa (atype := .long) (a0 := (i.toNatClampNeg, .inr (.inl (fun _ => 0)))) (ty := .long) hx.1 hx.2.1 (hx.2.2.2.2.1 _ hw) rfl hx.2.2.2.2.2.1 hP hD hS hx.2.2.2.2.2.2.2.1 (fun _ => rfl) hb.1 rfl (by show i.toNatClampNeg * _ ≤ _; have := hb.2.1; simp only [componentBytes]; omega) (by omega) (by omega) hd (fun q cA H1 hK1 hP hD hS => ?_)
      have e1 : s.vm.findClass _ = some cA := K_new hK1
      have e2 : s.vm.findClass _ = some cB := (hx.2.2.2.2.2.1.2 _ _ hB).2
      have e3 : cA = cB := Option.some.inj (e1.symm.trans e2)
      subst e3
      have hX1 := rX.push (ws := ws) (x := (q, .inl (cA, i.toNatClampNeg, .inr (.inl (fun _ => 0)))))
      exact kk H1 locs (cells + 1) (slots + i.toNatClampNeg) ls _ _ hP hD hS (hX.tr hX1) (hH.push ⟨cA, _, _, rfl, hB, _, by rw [List.length_replicate], fun j y hj => (rep_at hj).symm⟩) (hL.ext hX1) ⟨_, us, rfl, ⟨q, _, ws_new hH.1, rfl⟩, hs.ext hX1⟩ (by show cells + 1 + (f.2.2.2.1 - 1) = R.cells; omega) (by show slots + i.toNatClampNeg + (f.2.2.2.2 - i.toNatClampNeg) = R.slots; omega)
    · cases hg
  · cases hg
theorem s_anew5 {index : Nat} (hw : Cond.classLink own index "SameStar$Comet" ∈ wG) (hd : decode cc pc = .ok (.anewarray index, 3)) : SndF own cc nL ini pc (oNewA (pc + 3) 5) := by
  intro p l e R s m args below meth c D tys A H0 w0 Q hx f pc' f' hg kk
  intro H locs cells slots ls st ws hP hD hS hX hH hL hs hc hk
  unfold oNewA at hg
  split at hg
  · rename_i i r hi
    split at hg
    · rename_i hb
      cases hg
      rw [hi] at hs
      obtain ⟨u, us, rfl, hv, hs⟩ := hs
      cases hv
      obtain ⟨cB, hB⟩ := tyIs hx.2.2.2.2.2.2.1 (k := 5) rfl
      refine va_newq (C := "SameStar$Comet") hx.1 hx.2.1 hx.2.2.2.1 (hx.2.2.2.2.1 _ hw) hx.2.2.2.2.2.2.2.2.2.1.1.2.1 hx.2.2.2.2.2.1 hP hD hS hx.2.2.2.2.2.2.2.1 hb.1 rfl (by have := hb.2.1; omega) (by omega) (by omega) hd (fun q cA H1 hK1 hP hD hS => ?_)
      obtain ⟨-, -, -, -, -, e1⟩ := K_new hK1
      obtain ⟨-, -, -, -, -, e2⟩ := (hx.2.2.2.2.2.1.2 _ _ hB).2
      have e3 : cA = cB := Option.some.inj (e1.symm.trans e2)
      subst e3
      have hX1 := rX.push (ws := ws) (x := (q, .inl (cA, i.toNatClampNeg, .inr (.inr (.inr (.inr (fun _ => none)))))))
      exact kk H1 locs (cells + 1) (slots + i.toNatClampNeg) ls _ _ hP hD hS (hX.tr hX1) (hH.push ⟨cA, _, _, rfl, hB, _, by rw [List.length_replicate], fun j y hj => by rw [rep_at hj]; rfl⟩) (hL.ext hX1) ⟨_, us, rfl, ⟨q, _, ws_new hH.1, rfl⟩, hs.ext hX1⟩ (by show cells + 1 + (f.2.2.2.1 - 1) = R.cells; omega) (by show slots + i.toNatClampNeg + (f.2.2.2.2 - i.toNatClampNeg) = R.slots; omega)
    · cases hg
  · cases hg
theorem s_anew6 {index : Nat} (hw : Cond.classLink own index "SameStar$Text" ∈ wG) (hd : decode cc pc = .ok (.anewarray index, 3)) : SndF own cc nL ini pc (oNewA (pc + 3) 6) := by
  intro p l e R s m args below meth c D tys A H0 w0 Q hx f pc' f' hg kk
  intro H locs cells slots ls st ws hP hD hS hX hH hL hs hc hk
  unfold oNewA at hg
  split at hg
  · rename_i i r hi
    split at hg
    · rename_i hb
      cases hg
      rw [hi] at hs
      obtain ⟨u, us, rfl, hv, hs⟩ := hs
      cases hv
      obtain ⟨cB, hB⟩ := tyIs hx.2.2.2.2.2.2.1 (k := 6) rfl
      refine va_newq (C := "SameStar$Text") hx.1 hx.2.1 hx.2.2.2.1 (hx.2.2.2.2.1 _ hw) hx.2.2.2.2.2.2.2.2.2.1.1.2.2.1 hx.2.2.2.2.2.1 hP hD hS hx.2.2.2.2.2.2.2.1 hb.1 rfl (by have := hb.2.1; omega) (by omega) (by omega) hd (fun q cA H1 hK1 hP hD hS => ?_)
      obtain ⟨-, -, -, -, -, e1⟩ := K_new hK1
      obtain ⟨-, -, -, -, -, e2⟩ := (hx.2.2.2.2.2.1.2 _ _ hB).2
      have e3 : cA = cB := Option.some.inj (e1.symm.trans e2)
      subst e3
      have hX1 := rX.push (ws := ws) (x := (q, .inl (cA, i.toNatClampNeg, .inr (.inr (.inr (.inr (fun _ => none)))))))
      exact kk H1 locs (cells + 1) (slots + i.toNatClampNeg) ls _ _ hP hD hS (hX.tr hX1) (hH.push ⟨cA, _, _, rfl, hB, _, by rw [List.length_replicate], fun j y hj => by rw [rep_at hj]; rfl⟩) (hL.ext hX1) ⟨_, us, rfl, ⟨q, _, ws_new hH.1, rfl⟩, hs.ext hX1⟩ (by show cells + 1 + (f.2.2.2.1 - 1) = R.cells; omega) (by show slots + i.toNatClampNeg + (f.2.2.2.2 - i.toNatClampNeg) = R.slots; omega)
    · cases hg
  · cases hg
theorem s_anew7 {index : Nat} (hw : Cond.classLink own index "SameStar$Word" ∈ wG) (hd : decode cc pc = .ok (.anewarray index, 3)) : SndF own cc nL ini pc (oNewA (pc + 3) 7) := by
  intro p l e R s m args below meth c D tys A H0 w0 Q hx f pc' f' hg kk
  intro H locs cells slots ls st ws hP hD hS hX hH hL hs hc hk
  unfold oNewA at hg
  split at hg
  · rename_i i r hi
    split at hg
    · rename_i hb
      cases hg
      rw [hi] at hs
      obtain ⟨u, us, rfl, hv, hs⟩ := hs
      cases hv
      obtain ⟨cB, hB⟩ := tyIs hx.2.2.2.2.2.2.1 (k := 7) rfl
      refine va_newq (C := "SameStar$Word") hx.1 hx.2.1 hx.2.2.2.1 (hx.2.2.2.2.1 _ hw) hx.2.2.2.2.2.2.2.2.2.1.1.2.2.2.1 hx.2.2.2.2.2.1 hP hD hS hx.2.2.2.2.2.2.2.1 hb.1 rfl (by have := hb.2.1; omega) (by omega) (by omega) hd (fun q cA H1 hK1 hP hD hS => ?_)
      obtain ⟨-, -, -, -, -, e1⟩ := K_new hK1
      obtain ⟨-, -, -, -, -, e2⟩ := (hx.2.2.2.2.2.1.2 _ _ hB).2
      have e3 : cA = cB := Option.some.inj (e1.symm.trans e2)
      subst e3
      have hX1 := rX.push (ws := ws) (x := (q, .inl (cA, i.toNatClampNeg, .inr (.inr (.inr (.inr (fun _ => none)))))))
      exact kk H1 locs (cells + 1) (slots + i.toNatClampNeg) ls _ _ hP hD hS (hX.tr hX1) (hH.push ⟨cA, _, _, rfl, hB, _, by rw [List.length_replicate], fun j y hj => by rw [rep_at hj]; rfl⟩) (hL.ext hX1) ⟨_, us, rfl, ⟨q, _, ws_new hH.1, rfl⟩, hs.ext hX1⟩ (by show cells + 1 + (f.2.2.2.1 - 1) = R.cells; omega) (by show slots + i.toNatClampNeg + (f.2.2.2.2 - i.toNatClampNeg) = R.slots; omega)
    · cases hg
  · cases hg
/-- a switch over lo, lo + 1, ..: where each goes; d: else -/
def oTab (d : Nat) (lo : Int) (ts : List Nat) : aF → Option (Nat × aF) := fun f => match f.2.1 with
  | .inl x :: r => if x.toInt < lo then some (d, f.1, r, f.2.2) else match ts[(x.toInt - lo).toNat]? with
    | some t => some (t, f.1, r, f.2.2)
    | none => some (d, f.1, r, f.2.2)
  | _ => none
theorem s_tab {dflt lo hi : Int} {offs : Array Int} {len d : Nat} {ts : List Nat} (hd : decode cc pc = .ok (.tableswitch dflt lo hi offs, len)) (hdf : (pc : Int) + dflt = (d : Int)) (hts : offs.toList = ts.map (fun t : Nat => (t : Int) - (pc : Int))) (hlen : (ts.length : Int) = hi - lo + 1) : SndF own cc nL ini pc (oTab d lo ts) := by
  intro p l e R s m args below meth c D tys A H0 w0 Q hx f pc' f' hg kk
  intro H locs cells slots ls st ws hP hD hS hX hH hL hs hc hk
  unfold oTab at hg
  split at hg
  · rename_i x r hi'
    rw [hi'] at hs
    obtain ⟨u, us, rfl, hv, hs⟩ := hs
    cases hv
    split at hg
    · rename_i h1
      cases hg
      exact lv_tableOut hx.1 hx.2.1 hd (Or.inl h1) hdf (kk H locs cells slots ls us ws hP hD hS hX hH hL hs hc hk)
    · rename_i h1
      split at hg
      · rename_i t ht
        cases hg
        have hlt := (List.getElem?_eq_some_iff.mp ht).1
        refine lv_tableIn hx.1 hx.2.1 hd h1 (by omega) (off := (pc' : Int) - (pc : Int)) ?_ (by omega) (kk H locs cells slots ls us ws hP hD hS hX hH hL hs hc hk)
        rw [← Array.getElem?_toList, hts, List.getElem?_map, ht]
        rfl
      · rename_i ht
        cases hg
        have hge := List.getElem?_eq_none_iff.mp ht
        exact lv_tableOut hx.1 hx.2.1 hd (Or.inr (by omega)) hdf (kk H locs cells slots ls us ws hP hD hS hX hH hL hs hc hk)
  · cases hg
/-- an instruction that is never come to -/
def oFail : aF → Option (Nat × aF) := fun _ => none
theorem s_fail : SndF own cc nL ini pc oFail := by
  intro p l e R s m args below meth c D tys A H0 w0 Q hx f pc' f' hg kk
  intro H locs cells slots ls st ws hP hD hS hX hH hL hs hc hk
  cases hg
theorem cat_le : ∀ us : List Value, (us.map fun v => v.category).sum ≤ 2 * us.length
  | [] => Nat.le_refl _
  | v :: us => by
    have h1 := cat_le us
    have h2 : v.category ≤ 2 := by cases v <;> simp [Value.category]
    simp only [List.map_cons, List.sum_cons, List.length_cons]
    omega
def oMabs (n : Nat) : aF → Option (Nat × aF) := fun f => if 9 ≤ f.2.1.length then none else oUn n (fun x => if 0 ≤ x then x else 0 - x) f
theorem s_abs {index : Nat} (hw1 : Cond.methodLink own index Lib.Math.abs.name ∈ wG) (hw2 : Cond.static Lib.Math.abs.name ∈ wG) (hw3 : Cond.initialized "java/lang/Math" ∈ wG) (hw4 : Cond.code Lib.Math.abs.name Lib.Math.abs.code 1 (some .int) ∈ wG) (hd : decode cc pc = .ok (.invokestatic index, 3)) : SndF own cc nL ini pc (oMabs (pc + 3)) := by
  intro p l e R s m args below meth c D tys A H0 w0 Q hx f pc' f' hg kk
  intro H locs cells slots ls st ws hP hD hS hX hH hL hs hc hk
  unfold oMabs oUn at hg
  split at hg
  · cases hg
  rename_i hlen
  split at hg
  · rename_i x r hi
    cases hg
    rw [hi] at hs
    obtain ⟨u, us, rfl, hv, hs⟩ := hs
    cases hv
    have hcat : (us.map fun v => v.category).sum ≤ 16 := by
      have h1 := hs.len
      have h2 := cat_le us
      rw [hi] at hlen
      simp only [List.length_cons] at hlen
      omega
    refine va_mabs hx.1 hx.2.1 (by rw [hx.2.2.1]; exact hL.1.symm) hx.2.2.2.1 (hx.2.2.2.2.1 _ hw1) (hx.2.2.2.2.1 _ hw2) (hx.2.2.2.2.1 _ hw3) (hx.2.2.2.2.1 _ hw4) hx.2.2.2.2.2.2.2.2.2.2.1 (by have := hx.2.2.2.2.2.2.2.2.2.2.2; omega) (by omega) (by omega) hd ?_
    exact kk H locs cells slots ls _ ws hP hD hS hX hH hL ⟨_, us, rfl, rfl, hs⟩ hc hk
  · cases hg
def oMmax (n : Nat) : aF → Option (Nat × aF) := fun f => if 9 ≤ f.2.1.length then none else oBin n (fun x y => if x < y then y else x) f
theorem s_max {index : Nat} (hw1 : Cond.methodLink own index Lib.Math.max.name ∈ wG) (hw2 : Cond.static Lib.Math.max.name ∈ wG) (hw3 : Cond.initialized "java/lang/Math" ∈ wG) (hw4 : Cond.code Lib.Math.max.name Lib.Math.max.code 2 (some .int) ∈ wG) (hd : decode cc pc = .ok (.invokestatic index, 3)) : SndF own cc nL ini pc (oMmax (pc + 3)) := by
  intro p l e R s m args below meth c D tys A H0 w0 Q hx f pc' f' hg kk
  intro H locs cells slots ls st ws hP hD hS hX hH hL hs hc hk
  unfold oMmax oBin at hg
  split at hg
  · cases hg
  rename_i hlen
  split at hg
  · rename_i y x r hi
    cases hg
    rw [hi] at hs
    obtain ⟨u, us, rfl, hv, hs⟩ := hs
    obtain ⟨u2, us, rfl, hv2, hs⟩ := hs
    cases hv
    cases hv2
    have hcat : (us.map fun v => v.category).sum ≤ 16 := by
      have h1 := hs.len
      have h2 := cat_le us
      rw [hi] at hlen
      simp only [List.length_cons] at hlen
      omega
    refine va_mmax hx.1 hx.2.1 (by rw [hx.2.2.1]; exact hL.1.symm) hx.2.2.2.1 (hx.2.2.2.2.1 _ hw1) (hx.2.2.2.2.1 _ hw2) (hx.2.2.2.2.1 _ hw3) (hx.2.2.2.2.1 _ hw4) hx.2.2.2.2.2.2.2.2.2.2.1 (by have := hx.2.2.2.2.2.2.2.2.2.2.2; omega) (by omega) (by omega) hd ?_
    exact kk H locs cells slots ls _ ws hP hD hS hX hH hL ⟨_, us, rfl, rfl, hs⟩ hc hk
  · cases hg
def oMmin (n : Nat) : aF → Option (Nat × aF) := fun f => if 9 ≤ f.2.1.length then none else oBin n (fun x y => if y < x then y else x) f
theorem s_min {index : Nat} (hw1 : Cond.methodLink own index Lib.Math.min.name ∈ wG) (hw2 : Cond.static Lib.Math.min.name ∈ wG) (hw3 : Cond.initialized "java/lang/Math" ∈ wG) (hw4 : Cond.code Lib.Math.min.name Lib.Math.min.code 2 (some .int) ∈ wG) (hd : decode cc pc = .ok (.invokestatic index, 3)) : SndF own cc nL ini pc (oMmin (pc + 3)) := by
  intro p l e R s m args below meth c D tys A H0 w0 Q hx f pc' f' hg kk
  intro H locs cells slots ls st ws hP hD hS hX hH hL hs hc hk
  unfold oMmin oBin at hg
  split at hg
  · cases hg
  rename_i hlen
  split at hg
  · rename_i y x r hi
    cases hg
    rw [hi] at hs
    obtain ⟨u, us, rfl, hv, hs⟩ := hs
    obtain ⟨u2, us, rfl, hv2, hs⟩ := hs
    cases hv
    cases hv2
    have hcat : (us.map fun v => v.category).sum ≤ 16 := by
      have h1 := hs.len
      have h2 := cat_le us
      rw [hi] at hlen
      simp only [List.length_cons] at hlen
      omega
    refine va_mmin hx.1 hx.2.1 (by rw [hx.2.2.1]; exact hL.1.symm) hx.2.2.2.1 (hx.2.2.2.2.1 _ hw1) (hx.2.2.2.2.1 _ hw2) (hx.2.2.2.2.1 _ hw3) (hx.2.2.2.2.1 _ hw4) hx.2.2.2.2.2.2.2.2.2.2.1 (by have := hx.2.2.2.2.2.2.2.2.2.2.2; omega) (by omega) (by omega) hd ?_
    exact kk H locs cells slots ls _ ws hP hD hS hX hH hL ⟨_, us, rfl, rfl, hs⟩ hc hk
  · cases hg
/-- the call of Object's constructor -/
def oObj (n : Nat) : aF → Option (Nat × aF) := fun f => match f.2.1 with
  | .inr (.inr (some _)) :: r => if r.length ≤ 8 then some (n, f.1, r, f.2.2) else none
  | _ => none
theorem s_objInit {index : Nat} (hw1 : Cond.methodLink own index Lib.objectInit ∈ wG) (hw2 : Cond.instanceMethod Lib.objectInit ∈ wG) (hw3 : Cond.code Lib.objectInit ⟨#[0xb1]⟩ 1 none ∈ wG) (hd : decode cc pc = .ok (.invokespecial index, 3)) : SndF own cc nL ini pc (oObj (pc + 3)) := by
  intro p l e R s m args below meth c D tys A H0 w0 Q hx f pc' f' hg kk
  intro H locs cells slots ls st ws hP hD hS hX hH hL hs hc hk
  unfold oObj at hg
  split at hg
  · rename_i a r hi
    split at hg
    · rename_i hlen
      cases hg
      rw [hi] at hs
      obtain ⟨u, us, rfl, hv, hs⟩ := hs
      obtain ⟨b, e2, h3, rfl⟩ := hv
      have hcat : (us.map fun v => v.category).sum ≤ 16 := by
        have h1 := hs.len
        have h2 := cat_le us
        omega
      refine W.objInit hx.1 hx.2.1 hx.2.2.2.1 (hx.2.2.2.2.1 _ hw1) (hx.2.2.2.2.1 _ hw2) (hx.2.2.2.2.1 _ hw3) rfl (by show ls.size = c.maxLocals; rw [hx.2.2.1]; exact hL.1) rfl hd hx.2.2.2.2.2.2.2.2.2.2.1 (by have := hx.2.2.2.2.2.2.2.2.2.2.2; show 2 * 0 + _ + 12 ≤ _; omega) ?_
      exact kk H locs cells slots ls us ws hP hD hS hX hH hL hs hc hk
    · cases hg
  · cases hg
end OPN
