/-! LONGS: what the reference's rows ask for -/
section LNG
theorem tj_i2l {x : Int32} {z : Int64} (e : x.toInt64 = z) : z.toInt = x.toInt := by
  rw [← e]
  exact Int32.toInt_toInt64 x
theorem tj_add {x y z : Int64} (e : x + y = z) (h1 : -9223372036854775808 ≤ x.toInt + y.toInt) (h2 : x.toInt + y.toInt ≤ 9223372036854775807) : z.toInt = x.toInt + y.toInt := by
  rw [← e, Int64.toInt_add]
  unfold Int.bmod
  simp only []
  split <;> omega
theorem tj_cmp {x y : Int64} {z : Int32} (e : lg_cmp x y = z) : (z.toInt < 0 ∧ x.toInt < y.toInt) ∨ (z.toInt = 0 ∧ x.toInt = y.toInt) ∨ (0 < z.toInt ∧ y.toInt < x.toInt) := by
  rw [← e]
  unfold lg_cmp
  by_cases h : x > y
  · rw [if_pos h]
    exact Or.inr (Or.inr ⟨by decide, Int64.lt_iff_toInt_lt.mp h⟩)
  · rw [if_neg h]
    by_cases q : x = y
    · rw [if_pos q, q]
      exact Or.inr (Or.inl ⟨by decide, rfl⟩)
    · rw [if_neg q]
      refine Or.inl ⟨by decide, ?_⟩
      have h1 : ¬ y.toInt < x.toInt := fun r => h (Int64.lt_iff_toInt_lt.mpr r)
      have h2 : x.toInt ≠ y.toInt := fun r => q (Int64.toInt_inj.mp r)
      omega
theorem tj_l2i {x : Int64} {z : Int32} (e : x.toInt32 = z) (h : -2147483648 ≤ x.toInt ∧ x.toInt ≤ 2147483647) : z.toInt = x.toInt := by
  rw [← e, Int64.toInt_toInt32]
  unfold Int.bmod
  simp only []
  split <;> omega
end LNG
