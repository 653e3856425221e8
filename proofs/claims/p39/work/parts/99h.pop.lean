/-! THE LAW, where it throws an answer away -/
section LAWB
variable {p : Program} {e : Env} {s : State} {m : MethodId} {below : List Frame} {meth : Method} {c : Code} {l : Launch} {b L : Nat} {xs : Nat → Int32} {D : va_G} {tys : List (ClassId × FieldType)} {i1 i2 pc : Nat}
theorem lg_pop {j kc ks : Nat} {st : List aV} {h : aH} {x : Int32} (C : LC p s m meth c b L xs D tys) (hd : decode code pc = .ok (.pop, 1)) (k : LG p l e s m below meth c b D tys i1 i2 j (pc + 1) st h kc ks) : LG p l e s m below meth c b D tys i1 i2 j pc (.inl x :: st) h kc ks := by
  intro H locs cells slots ls us ws ax am e1 e2 hP hD hS hH h1 h2 hl hs hc hk
  obtain ⟨u, us, rfl, hv, hs⟩ := hs
  cases hv
  refine lv_pop C.1.1 C.1.2.1 hd rfl ?_
  exact k H locs cells slots ls _ ws ax am e1 e2 hP hD hS hH h1 h2 hl hs hc hk
theorem lg_pop2 {j kc ks : Nat} {st : List aV} {h : aH} {x : Int64} (C : LC p s m meth c b L xs D tys) (hd : decode code pc = .ok (.pop2, 1)) (k : LG p l e s m below meth c b D tys i1 i2 j (pc + 1) st h kc ks) : LG p l e s m below meth c b D tys i1 i2 j pc (.inr (.inl x) :: st) h kc ks := by
  intro H locs cells slots ls us ws ax am e1 e2 hP hD hS hH h1 h2 hl hs hc hk
  obtain ⟨u, us, rfl, hv, hs⟩ := hs
  cases hv
  refine lv_pop2_2 C.1.1 C.1.2.1 hd rfl ?_
  exact k H locs cells slots ls _ ws ax am e1 e2 hP hD hS hH h1 h2 hl hs hc hk
theorem lg_go {j kc ks t : Nat} {st : List aV} {h : aH} {off : Int} (C : LC p s m meth c b L xs D tys) (hd : decode code pc = .ok (.goto off, 3)) (ht : (pc : Int) + off = (t : Int)) (k : LG p l e s m below meth c b D tys i1 i2 j t st h kc ks) : LG p l e s m below meth c b D tys i1 i2 j pc st h kc ks := by
  intro H locs cells slots ls us ws ax am e1 e2 hP hD hS hH h1 h2 hl hs hc hk
  refine lv_goto C.1.1 C.1.2.1 hd ht ?_
  exact k H locs cells slots ls us ws ax am e1 e2 hP hD hS hH h1 h2 hl hs hc hk
end LAWB
