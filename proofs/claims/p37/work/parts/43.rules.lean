/-! RULES for the first call on fresh objects -/
section P1A
/-- a truth as the machine's int -/
def bi (q : Bool) : Int32 := bif q then 1 else 0
def wi (x lo hi : Int32) : Bool := decide (lo ≤ x) && decide (x ≤ hi)
theorem le_t {x y : Int32} (h : decide (y ≤ x) = true) : decide (x < y) = false := decide_eq_false (fun q => absurd (of_decide_eq_true h) (Int32.not_le.mpr q))
theorem le_f {x y : Int32} (h : decide (y ≤ x) = false) : decide (x < y) = true := decide_eq_true (Int32.not_le.mp (of_decide_eq_false h))
theorem lt_t {x y : Int32} (h : decide (x < y) = true) : decide (y ≤ x) = false := decide_eq_false (Int32.not_le.mpr (of_decide_eq_true h))
theorem lt_f {x y : Int32} (h : decide (x < y) = false) : decide (y ≤ x) = true := decide_eq_true (Int32.not_lt.mp (of_decide_eq_false h))
theorem eq_t {x y : Int32} (h : decide (x = y) = true) : decide (x ≠ y) = false := decide_eq_false (fun q => q (of_decide_eq_true h))
theorem eq_f {x y : Int32} (h : decide (x = y) = false) : decide (x ≠ y) = true := decide_eq_true (of_decide_eq_false h)
theorem ne_t {x y : Int32} (h : decide (x ≠ y) = true) : decide (x = y) = false := decide_eq_false (of_decide_eq_true h)
theorem ne_f {x y : Int32} (h : decide (x ≠ y) = false) : decide (x = y) = true := decide_eq_true (Decidable.byContradiction (fun q => of_decide_eq_false h q))
theorem wi_n1 (x : Int32) : wi x 0 (-1) = false := by
  unfold wi
  cases h : decide (0 ≤ x) with
  | false => rfl
  | true =>
    have h1 : 0 ≤ x := of_decide_eq_true h
    have h2 : ¬ x ≤ -1 := fun q => absurd (Int32.le_trans h1 q) (by decide)
    rw [decide_eq_false h2]
    rfl
theorem wi_01 (x : Int32) : wi x 0 (0 - 1) = false := wi_n1 x
theorem bi_e0t {q : Bool} (h : q = false) : decide (bi q = 0) = true := by rw [h]; rfl
theorem bi_e0f {q : Bool} (h : q = true) : decide (bi q = 0) = false := by rw [h]; rfl
theorem bi_n0t {q : Bool} (h : q = true) : decide (bi q ≠ 0) = true := by rw [h]; rfl
theorem bi_n0f {q : Bool} (h : q = false) : decide (bi q ≠ 0) = false := by rw [h]; rfl
theorem bi_ret (q : Bool) : aRet 4 (.inl (bi q)) = true := by cases q <;> rfl
variable {d : Nat} {x lo hi : Int32} {h : aH}
theorem wi_lt (h : decide (x < lo) = true) : wi x lo hi = false := by unfold wi; rw [lt_t h]; rfl
theorem wi_gt (h1 : decide (x < lo) = false) (h : decide (hi < x) = true) : wi x lo hi = false := by unfold wi; rw [lt_f h1, lt_t h]; rfl
theorem wi_in (h1 : decide (x < lo) = false) (h : decide (hi < x) = false) : wi x lo hi = true := by unfold wi; rw [lt_f h1, lt_f h]; rfl
theorem hs_ne {h : aH} {k j : Nat} {c x : aC} (hk : k ≠ j) (hx : h[j]? = some x) : (h.set k c)[j]? = some x := by rw [List.getElem?_set_ne hk]; exact hx
theorem hs_eq {h : aH} {k : Nat} {c x : aC} (hx : h[k]? = some x) : (h.set k c)[k]? = some c := by rw [List.getElem?_set_self (List.getElem?_eq_some_iff.mp hx).1]
theorem hs_ap {h g : aH} {j : Nat} {x : aC} (hx : h[j]? = some x) : (h ++ g)[j]? = some x := by rw [List.getElem?_append_left (List.getElem?_eq_some_iff.mp hx).1]; exact hx
end P1A
