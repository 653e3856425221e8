/-! TWO FACTS of words that the reference's loops ask for -/
section LEMA
theorem ti_mul1 {x y z : Int32} (e : x * y = z) (h1 : -1 ≤ x.toInt ∧ x.toInt ≤ 1) (h2 : 0 ≤ y.toInt ∧ y.toInt ≤ 1000000) : -y.toInt ≤ z.toInt ∧ z.toInt ≤ y.toInt := by
  rcases (show x.toInt = -1 ∨ x.toInt = 0 ∨ x.toInt = 1 by omega) with h | h | h
  · have := ti_mulR e h (by omega) (by omega)
    omega
  · have := ti_mulR e h (by omega) (by omega)
    omega
  · have := ti_mulR e h (by omega) (by omega)
    omega
end LEMA
