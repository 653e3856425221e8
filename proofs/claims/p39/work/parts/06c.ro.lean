/-! OPERATIONS on what nobody writes, and System.arraycopy -/
section OPRO
variable {own : String} {cc : ByteArray} {nL : Nat} {ini : Bool} {pc : Nat}
/-- an element of a static array: its place stands in a local -/
def oRd1 (n i : Nat) (l : List Int32) : aF → Option (Nat × aF) := fun f => match f.1[i]? with
  | some (some (.inl x)) => if ¬ x < 0 ∧ x.toNatClampNeg < l.length then some (n, f.1, .inl (l.getD x.toNatClampNeg 0) :: f.2.1, f.2.2) else none
  | _ => none
/-- the same, at 4 x + y of two locals -/
def oRd4 (n i j : Nat) (l : List Int32) : aF → Option (Nat × aF) := fun f => match f.1[i]? with
  | some (some (.inl x)) => match f.1[j]? with
    | some (some (.inl y)) => if ¬ x * 4 + y < 0 ∧ (x * 4 + y).toNatClampNeg < l.length then some (n, f.1, .inl (l.getD (x * 4 + y).toNatClampNeg 0) :: f.2.1, f.2.2) else none
    | _ => none
  | _ => none
def ixF (c : Int32) : List Int32 → Nat → Int32
  | [], _ => -1
  | b :: l, k => if b = c then Int32.ofNat k else ixF c l (k + 1)
/-- the place of a letter in the names -/
def oIdx (n i : Nat) : aF → Option (Nat × aF) := fun f => match f.1[i]? with
  | some (some (.inl x)) => if 97 ≤ x ∧ x ≤ 122 ∧ f.2.1.length ≤ 2 then some (n, f.1, .inl (ixF x lNm 0) :: f.2.1, f.2.2) else none
  | _ => none
theorem s_abv {index : Nat} (hl : Cond.fieldLink own index "SameStar" "ABOVE" "[I" ∈ wG) (d0 : decode cc pc = .ok (.getstatic index, 3)) (d1 : decode cc (pc + 3) = .ok (.iload_n 0, 1)) (d2 : decode cc (pc + 3 + 1) = .ok (.iaload, 1)) : SndF own cc nL ini pc (oRd1 (pc + 3 + 1 + 1) 0 lAb) := by
  intro p l e R s m args below meth c D tys A H0 w0 Q hx f pc' f' hg k
  intro H locs cells slots ls st ws hP hD hS hX hH hL hs hc hk
  obtain ⟨a, b, adK, adV, z1, t1, z2, t2, z3, z4, z5⟩ := hx.2.2.2.2.2.2.2.2.2.1.2.1
  have hH0 := hx.2.2.2.2.2.2.2.2.2.1.2.2.1
  subst hH0
  unfold oRd1 at hg
  split at hg
  · rename_i x hi
    split at hg
    · rename_i hin
      cases hg
      obtain ⟨-, u, h1, h2⟩ := hL.2.2 _ _ hi
      cases h2
      refine va_gets hx.1 hx.2.1 z1 hS hx.2.2.2.1 (hx.2.2.2.2.1 _ hl) (fun _ q => q) d0 ?_
      refine lv_iload_n hx.1 hx.2.1 d1 rfl h1 ?_
      have h8 : x.toNatClampNeg < 8 := hin.2
      refine va_ti hx.1 hx.2.1 t1 hS (fun q => q.elim hin.1 (fun q => by omega)) rfl d2 ?_
      exact k H locs cells slots ls _ ws hP hD hS hX hH hL ⟨_, _, rfl, rfl, hs⟩ hc hk
    · cases hg
  · cases hg
theorem s_bod {index i j : Nat} (hl : Cond.fieldLink own index "SameStar$Acts" "BODIES" "[I" ∈ wG) (d0 : decode cc pc = .ok (.getstatic index, 3)) (d1 : decode cc (pc + 3) = .ok (.iload i, 2)) (d2 : decode cc (pc + 3 + 2) = .ok (.iconst 4, 1)) (d3 : decode cc (pc + 3 + 2 + 1) = .ok (.imul, 1)) {jj : Fin 4} (d4 : decode cc (pc + 3 + 2 + 1 + 1) = .ok (.iload_n jj, 1)) (hj : (jj : Nat) = j) (d5 : decode cc (pc + 3 + 2 + 1 + 1 + 1) = .ok (.iadd, 1)) (d6 : decode cc (pc + 3 + 2 + 1 + 1 + 1 + 1) = .ok (.iaload, 1)) : SndF own cc nL ini pc (oRd4 (pc + 3 + 2 + 1 + 1 + 1 + 1 + 1) i j lBo) := by
  intro p l e R s m args below meth c D tys A H0 w0 Q hx f pc' f' hg k
  intro H locs cells slots ls st ws hP hD hS hX hH hL hs hc hk
  obtain ⟨a, b, adK, adV, z1, t1, z2, t2, z3, z4, z5⟩ := hx.2.2.2.2.2.2.2.2.2.1.2.1
  have hH0 := hx.2.2.2.2.2.2.2.2.2.1.2.2.1
  subst hH0
  unfold oRd4 at hg
  split at hg
  · rename_i x hi
    split at hg
    · rename_i y hi2
      split at hg
      · rename_i hin
        cases hg
        obtain ⟨-, u, h1, h2⟩ := hL.2.2 _ _ hi
        cases h2
        obtain ⟨-, u2, g1, g2⟩ := hL.2.2 _ _ hi2
        cases g2
        refine va_gets hx.1 hx.2.1 z2 hS hx.2.2.2.1 (hx.2.2.2.2.1 _ hl) (fun _ q => q) d0 ?_
        refine lv_iload hx.1 hx.2.1 d1 h1 ?_
        refine lv_iconst (v := 4) hx.1 hx.2.1 d2 (by decide) ?_
        refine lv_imul hx.1 hx.2.1 d3 ?_
        refine lv_iload_n hx.1 hx.2.1 d4 hj g1 ?_
        refine lv_iadd hx.1 hx.2.1 d5 ?_
        have h8 : (x * 4 + y).toNatClampNeg < 32 := hin.2
        refine va_ti hx.1 hx.2.1 t2 hS (fun q => q.elim hin.1 (fun q => by omega)) rfl d6 ?_
        exact k H locs cells slots ls _ ws hP hD hS hX hH hL ⟨_, _, rfl, rfl, hs⟩ hc hk
      · cases hg
    · cases hg
  · cases hg
def cpL {α : Type} (z : α) (xs ys : List α) (sp dp n : Nat) : List α := (List.range ys.length).map (fun k => if dp ≤ k ∧ k < dp + n then xs.getD (sp + (k - dp)) z else ys.getD k z)
theorem cpL_len {α : Type} {z : α} {xs ys : List α} {sp dp n : Nat} : (cpL z xs ys sp dp n).length = ys.length := by unfold cpL; rw [List.length_map, List.length_range]
theorem cpL_at {α : Type} {z : α} {xs ys : List α} {sp dp n j : Nat} (hj : j < ys.length) : (cpL z xs ys sp dp n)[j]? = some (if dp ≤ j ∧ j < dp + n then xs.getD (sp + (j - dp)) z else ys.getD j z) := by
  unfold cpL
  rw [List.getElem?_map, List.getElem?_range hj]
  rfl
theorem cpL_cpy {α : Type} {z : α} {xs ys : List α} {sp dp n : Nat} {f g : Nat → α} (hf : ∀ (j : Nat) y, xs[j]? = some y → f j = y) (hg : ∀ (j : Nat) y, ys[j]? = some y → g j = y) (h : sp + n ≤ xs.length) : ∀ (j : Nat) y, (cpL z xs ys sp dp n)[j]? = some y → va_cpy f g sp dp n j = y := by
  intro j y hj
  have hl := (List.getElem?_eq_some_iff.mp hj).1
  rw [cpL_len] at hl
  rw [cpL_at hl] at hj
  cases hj
  unfold va_cpy
  by_cases q : dp ≤ j ∧ j < dp + n
  · rw [if_pos q, if_pos q, List.getD_eq_getElem?_getD, List.getElem?_eq_getElem (by omega)]
    exact hf _ _ (List.getElem?_eq_getElem (by omega))
  · rw [if_neg q, if_neg q, List.getD_eq_getElem?_getD, List.getElem?_eq_getElem hl]
    exact hg _ _ (List.getElem?_eq_getElem hl)
def oCpI (nx : Nat) : aF → Option (Nat × aF) := fun f => match f.2.1 with
  | .inl n :: .inl dp :: .inr (.inr (some a1)) :: .inl sp :: .inr (.inr (some a0)) :: r => match f.2.2.1[a0]? with
    | some (.inr (0, .inl xs)) => match f.2.2.1[a1]? with
      | some (.inr (0, .inl ys)) => if ¬ sp < 0 ∧ ¬ dp < 0 ∧ ¬ n < 0 ∧ sp.toNatClampNeg + n.toNatClampNeg ≤ xs.length ∧ dp.toNatClampNeg + n.toNatClampNeg ≤ ys.length ∧ r.length ≤ 4 then some (nx, f.1, r, f.2.2.1.set a1 (.inr (0, .inl (cpL 0 xs ys sp.toNatClampNeg dp.toNatClampNeg n.toNatClampNeg))), f.2.2.2) else none
      | _ => none
    | _ => none
  | _ => none
def oCpJ (nx : Nat) : aF → Option (Nat × aF) := fun f => match f.2.1 with
  | .inl n :: .inl dp :: .inr (.inr (some a1)) :: .inl sp :: .inr (.inr (some a0)) :: r => match f.2.2.1[a0]? with
    | some (.inr (4, .inr (.inl xs))) => match f.2.2.1[a1]? with
      | some (.inr (4, .inr (.inl ys))) => if ¬ sp < 0 ∧ ¬ dp < 0 ∧ ¬ n < 0 ∧ sp.toNatClampNeg + n.toNatClampNeg ≤ xs.length ∧ dp.toNatClampNeg + n.toNatClampNeg ≤ ys.length ∧ r.length ≤ 4 then some (nx, f.1, r, f.2.2.1.set a1 (.inr (4, .inr (.inl (cpL 0 xs ys sp.toNatClampNeg dp.toNatClampNeg n.toNatClampNeg)))), f.2.2.2) else none
      | _ => none
    | _ => none
  | _ => none
theorem nfw_copy : nativeFrameWords "java/lang/System" "arraycopy" 5 ≤ 400 := by decide +kernel
theorem s_cpI {index : Nat} (hw1 : Cond.methodLink own index arraycopyName ∈ wG) (hw2 : Cond.native arraycopyName ∈ wG) (hw3 : Cond.static arraycopyName ∈ wG) (hw4 : Cond.initialized "java/lang/System" ∈ wG) (hd : decode cc pc = .ok (.invokestatic index, 3)) : SndF own cc nL ini pc (oCpI (pc + 3)) := by
  intro p l e R s m args below meth c D tys A H0 w0 Q hx f pc' f' hg kk
  intro H locs cells slots ls st ws hP hD hS hX hH hL hs hc hk
  unfold oCpI at hg
  split at hg
  · rename_i n dp a1 sp a0 r hi
    split at hg
    · rename_i xs ha0
      split at hg
      · rename_i ys ha1
        split at hg
        · rename_i hb
          cases hg
          obtain ⟨b1, b2, b3, b4, b5, b6⟩ := hb
          rw [hi] at hs
          obtain ⟨u, us, rfl, hv, hs⟩ := hs
          obtain ⟨u2, us, rfl, hv2, hs⟩ := hs
          obtain ⟨u3, us, rfl, hv3, hs⟩ := hs
          obtain ⟨u4, us, rfl, hv4, hs⟩ := hs
          obtain ⟨u5, us, rfl, hv5, hs⟩ := hs
          cases hv
          cases hv2
          cases hv4
          obtain ⟨q1, cA, ty, y, rfl, h1, h2, g, rfl, h4⟩ := hH.arr ha1 hv3
          obtain ⟨q0, cA0, ty0, y0, rfl, i1, i2, g0, rfl, i4⟩ := hH.arr ha0 hv5
          have h5 := tyOf hx.2.2.2.2.2.2.1 h2
          cases h5
          have h6 := tyOf hx.2.2.2.2.2.2.1 i2
          cases h6
          have hcat : (us.map fun v => v.category).sum ≤ 16 := by
            have e1 := hs.len
            have e2 := cat_le us
            omega
          have hnf := nfw_copy
          have hrm := hx.2.2.2.2.2.2.2.2.2.1.2.2.2
          refine va_copyi (ty := .int) hx.1 hx.2.1 (by rw [hx.2.2.1]; exact hL.1.symm) hx.2.2.2.1 (hx.2.2.2.2.1 _ hw1) (hx.2.2.2.2.1 _ hw2) (hx.2.2.2.2.1 _ hw3) (hx.2.2.2.2.1 _ hw4) hx.2.2.2.2.2.1 hP hD hS a0 a1 _ _ i1 h1 i2 h2 rfl b1 b2 b3 b4 b5 (fun _ _ => rfl) (by omega) (by omega) hd (fun H1 locs1 hP hD hS => ?_)
          have hX1 := rX.set (e' := .inl (cA, ys.length, .inl (va_cpy g0 g sp.toNatClampNeg dp.toNatClampNeg n.toNatClampNeg))) h1
          exact kk H1 locs1 cells slots ls us _ hP hD hS (hX.tr hX1) (hH.set h1 ⟨cA, _, _, rfl, h2, _, by rw [cpL_len], cpL_cpy i4 h4 b4⟩) (hL.ext hX1) (hs.ext hX1) hc hk
        · cases hg
      · cases hg
    · cases hg
  · cases hg
theorem s_cpJ {index : Nat} (hw1 : Cond.methodLink own index arraycopyName ∈ wG) (hw2 : Cond.native arraycopyName ∈ wG) (hw3 : Cond.static arraycopyName ∈ wG) (hw4 : Cond.initialized "java/lang/System" ∈ wG) (hd : decode cc pc = .ok (.invokestatic index, 3)) : SndF own cc nL ini pc (oCpJ (pc + 3)) := by
  intro p l e R s m args below meth c D tys A H0 w0 Q hx f pc' f' hg kk
  intro H locs cells slots ls st ws hP hD hS hX hH hL hs hc hk
  unfold oCpJ at hg
  split at hg
  · rename_i n dp a1 sp a0 r hi
    split at hg
    · rename_i xs ha0
      split at hg
      · rename_i ys ha1
        split at hg
        · rename_i hb
          cases hg
          obtain ⟨b1, b2, b3, b4, b5, b6⟩ := hb
          rw [hi] at hs
          obtain ⟨u, us, rfl, hv, hs⟩ := hs
          obtain ⟨u2, us, rfl, hv2, hs⟩ := hs
          obtain ⟨u3, us, rfl, hv3, hs⟩ := hs
          obtain ⟨u4, us, rfl, hv4, hs⟩ := hs
          obtain ⟨u5, us, rfl, hv5, hs⟩ := hs
          cases hv
          cases hv2
          cases hv4
          obtain ⟨q1, cA, ty, y, rfl, h1, h2, g, rfl, h4⟩ := hH.arr ha1 hv3
          obtain ⟨q0, cA0, ty0, y0, rfl, i1, i2, g0, rfl, i4⟩ := hH.arr ha0 hv5
          have h5 := tyOf hx.2.2.2.2.2.2.1 h2
          cases h5
          have h6 := tyOf hx.2.2.2.2.2.2.1 i2
          cases h6
          have hcat : (us.map fun v => v.category).sum ≤ 16 := by
            have e1 := hs.len
            have e2 := cat_le us
            omega
          have hnf := nfw_copy
          have hrm := hx.2.2.2.2.2.2.2.2.2.1.2.2.2
          refine va_copyl (ty := .long) hx.1 hx.2.1 (by rw [hx.2.2.1]; exact hL.1.symm) hx.2.2.2.1 (hx.2.2.2.2.1 _ hw1) (hx.2.2.2.2.1 _ hw2) (hx.2.2.2.2.1 _ hw3) (hx.2.2.2.2.1 _ hw4) hx.2.2.2.2.2.1 hP hD hS a0 a1 _ _ i1 h1 i2 h2 rfl b1 b2 b3 b4 b5 (fun _ _ => rfl) (by omega) (by omega) hd (fun H1 locs1 hP hD hS => ?_)
          have hX1 := rX.set (e' := .inl (cA, ys.length, .inr (.inl (va_cpy g0 g sp.toNatClampNeg dp.toNatClampNeg n.toNatClampNeg)))) h1
          exact kk H1 locs1 cells slots ls us _ hP hD hS (hX.tr hX1) (hH.set h1 ⟨cA, _, _, rfl, h2, _, by rw [cpL_len], cpL_cpy i4 h4 b4⟩) (hL.ext hX1) (hs.ext hX1) hc hk
        · cases hg
      · cases hg
    · cases hg
  · cases hg
end OPRO
