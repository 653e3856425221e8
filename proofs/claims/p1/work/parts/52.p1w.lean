section P1W
theorem rm_nn {x : Int32} (hx : 0 ≤ x.toInt) : 0 ≤ (x - x / 100 * 100).toInt := by
  have h1 : ((100 : Int32)).toInt = 100 := by decide
  have h3 := Int32.le_toInt x
  have h4 := Int32.toInt_lt x
  rw [Int32.toInt_sub, Int32.toInt_mul, Int32.toInt_div, h1]
  have e := Int.mul_tdiv_add_tmod x.toInt 100
  have l1 : x.toInt.tmod 100 < 100 := Int.tmod_lt_of_pos _ (by decide)
  have l2 : 0 ≤ x.toInt.tmod 100 := Int.tmod_nonneg _ hx
  generalize x.toInt.tdiv 100 = q at *
  generalize x.toInt.tmod 100 = r at *
  generalize x.toInt = a at *
  have b1 : q.bmod (2 ^ 32) = q := by
    unfold Int.bmod
    simp only []
    split <;> omega
  rw [b1]
  unfold Int.bmod
  simp only []
  split <;> split <;> omega
theorem dv_nn {x : Int32} (hx : 0 ≤ x.toInt) : 0 ≤ (x / 100).toInt := by
  have h1 : ((100 : Int32)).toInt = 100 := by decide
  have h3 := Int32.le_toInt x
  have h4 := Int32.toInt_lt x
  rw [Int32.toInt_div, h1]
  have e := Int.mul_tdiv_add_tmod x.toInt 100
  have l1 : x.toInt.tmod 100 < 100 := Int.tmod_lt_of_pos _ (by decide)
  have l2 : 0 ≤ x.toInt.tmod 100 := Int.tmod_nonneg _ hx
  generalize x.toInt.tdiv 100 = q at *
  generalize x.toInt.tmod 100 = r at *
  generalize x.toInt = a at *
  unfold Int.bmod
  simp only []
  split <;> omega
theorem rg_nn {x : Int32} (h : decide (x < 0) = false) : 0 ≤ (x - x / 100 * 100).toInt := rm_nn (lt_no h)
theorem kd_nn {x : Int32} (h : decide (x < 0) = false) : 0 ≤ ((x / 100) - (x / 100) / 100 * 100).toInt := rm_nn (dv_nn (lt_no h))
theorem rm_ix {x : Int32} (h : decide (x < 0) = false) (hl : decide (x - x / 100 * 100 < 20) = true) : ¬ (x - x / 100 * 100) < 0 ∧ (x - x / 100 * 100).toNatClampNeg < 20 := by
  refine wi_ix (hi := 19) (m := 20) ?_ (by decide)
  have h1 := rg_nn h
  have h2 := lt_to hl
  have h3 : ((20 : Int32)).toInt = 20 := by decide
  have h4 : ((19 : Int32)).toInt = 19 := by decide
  have h5 : ((0 : Int32)).toInt = 0 := by decide
  unfold wi
  rw [decide_eq_true (Int32.le_iff_toInt_le.mpr (by omega)), decide_eq_true (Int32.le_iff_toInt_le.mpr (by omega))]
  rfl
end P1W
