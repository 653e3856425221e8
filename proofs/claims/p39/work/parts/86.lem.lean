/-! TWO FACTS of words that the reference's loops ask for -/
section LEMA
theorem ti_mul1 {x y z : Int32} (e : x * y = z) (h1 : -1 ≤ x.toInt ∧ x.toInt ≤ 1) (h2 : 0 ≤ y.toInt ∧ y.toInt ≤ 1000000) : -y.toInt ≤ z.toInt ∧ z.toInt ≤ y.toInt := by
  rcases (show x.toInt = -1 ∨ x.toInt = 0 ∨ x.toInt = 1 by omega) with h | h | h
  · have := ti_mulR e h (by omega) (by omega)
    omega
  · have := ti_mulR e h (by omega) (by omega)
    omega
  · have := ti_mulR e h (by omega) (by omega)
    omega
theorem kern_lt {x u z : Int32} (hx : ¬ x = 0) (e1 : x - 1 = u) (e2 : x &&& u = z) : z.toBitVec.toNat < x.toBitVec.toNat := by
  have h0 : x.toBitVec.toNat ≠ 0 := fun q => hx (Int32.toBitVec_inj.mp (BitVec.eq_of_toNat_eq q))
  have h1 : u.toBitVec.toNat = x.toBitVec.toNat - 1 := by
    rw [← e1, Int32.toBitVec_sub, BitVec.toNat_sub]
    have := x.toBitVec.isLt
    show (2 ^ 32 - 1 + x.toBitVec.toNat) % 2 ^ 32 = _
    omega
  have h2 : z.toBitVec.toNat ≤ u.toBitVec.toNat := by
    rw [← e2, Int32.toBitVec_and, BitVec.toNat_and]
    exact Nat.and_le_right
  omega
end LEMA
