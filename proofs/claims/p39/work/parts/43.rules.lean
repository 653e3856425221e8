/-! RULES for the first call on fresh objects -/
section P1A
/-- a truth as the machine's int -/
def bi (q : Bool) : Int32 := bif q then 1 else 0
def wi (x lo hi : Int32) : Bool := decide (lo ≤ x) && decide (x ≤ hi)
theorem lt_t {x y : Int32} (h : decide (x < y) = true) : decide (y ≤ x) = false := decide_eq_false (Int32.not_le.mpr (of_decide_eq_true h))
theorem lt_f {x y : Int32} (h : decide (x < y) = false) : decide (y ≤ x) = true := decide_eq_true (Int32.not_lt.mp (of_decide_eq_false h))
theorem bi_ret (q : Bool) : aRet 4 (.inl (bi q)) = true := by cases q <;> rfl
variable {d : Nat} {x lo hi : Int32} {h : aH}
theorem wi_lt (h : decide (x < lo) = true) : wi x lo hi = false := by unfold wi; rw [lt_t h]; rfl
theorem wi_gt (h1 : decide (x < lo) = false) (h : decide (hi < x) = true) : wi x lo hi = false := by unfold wi; rw [lt_f h1, lt_t h]; rfl
theorem wi_in (h1 : decide (x < lo) = false) (h : decide (hi < x) = false) : wi x lo hi = true := by unfold wi; rw [lt_f h1, lt_f h]; rfl
theorem hs_eq {h : aH} {k : Nat} {c x : aC} (hx : h[k]? = some x) : (h.set k c)[k]? = some c := by rw [List.getElem?_set_self (List.getElem?_eq_some_iff.mp hx).1]
theorem hs_ap {h g : aH} {j : Nat} {x : aC} (hx : h[j]? = some x) : (h ++ g)[j]? = some x := by rw [List.getElem?_append_left (List.getElem?_eq_some_iff.mp hx).1]; exact hx
end P1A
