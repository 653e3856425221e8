/-! FIELDS of objects -/
section FLD
/-- a field of an object -/
def fA (h : aH) (z k : Nat) : Option aV := match h[z]? with
  | some (Sum.inl (_, fs)) => fs[k]?
  | _ => none
theorem fA_of {h : aH} {z ci k : Nat} {fs : List aV} (hc : h[z]? = some (.inl (ci, fs))) : fA h z k = fs[k]? := by
  unfold fA
  rw [hc]
theorem fA_c {h h' : aH} {z : Nat} (e : h'[z]? = h[z]?) (k : Nat) : fA h' z k = fA h z k := by
  unfold fA
  rw [e]
theorem fO_g (u : aH) (z k : Nat) : fO u z k = (match fA u z k with
      | some (Sum.inl x) => x.toInt
      | _ => 0) := by
  unfold fO fA
  cases u[z]? with
  | none => rfl
  | some c =>
    match c with
    | .inl (ci, fs) => rfl
    | .inr _ => rfl
theorem fO_fA {h : aH} {z k : Nat} {x : Int32} (e : fA h z k = some (.inl x)) : fO h z k = x.toInt := by
  rw [fO_g, e]
theorem fO_eA {h h' : aH} {z k : Nat} (e : fA h' z k = fA h z k) : fO h' z k = fO h z k := by
  rw [fO_g, fO_g, e]
end FLD
