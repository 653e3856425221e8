/-! MORE RULES over the world -/
section RUW
theorem wid_fix {W : List Nat} {a : Nat} {t : Nat × Nat} (h : a < 114) (hw : a ∈ W) : wid a t ∈ W := by
  unfold wid
  rw [if_pos h]
  exact hw
theorem wid_c {a : Nat} (h : 114 ≤ a) : wid a (102, 14) = 202 := by
  unfold wid
  rw [if_neg (by omega)]
  rfl
theorem wid_w {a : Nat} (h : 114 ≤ a) : wid a (110, 13) = 210 := by
  unfold wid
  rw [if_neg (by omega)]
  rfl
theorem wid_sig {W : List Nat} {a : Nat} (h : 114 ≤ a) (hw : 222 ∈ W) : wid a (4, 8712) ∈ W := by
  have e : wid a (4, 8712) = 222 := by
    unfold wid
    rw [if_neg (by omega)]
    rfl
  rw [e]
  exact hw
theorem wid_ver {W : List Nat} {a : Nat} (h : 114 ≤ a) (hw : 223 ∈ W) : wid a (0, 9) ∈ W := by
  have e : wid a (0, 9) = 223 := by
    unfold wid
    rw [if_neg (by omega)]
    rfl
  rw [e]
  exact hw
theorem wid_f {a : Nat} {t : Nat × Nat} (h : a < 114) : wid a t = a := by
  unfold wid
  rw [if_pos h]
theorem wid_pas {W : List Nat} {a : Nat} (h : 114 ≤ a) (hw : 221 ∈ W) : wid a (0, 121) ∈ W := by
  have e : wid a (0, 121) = 221 := by
    unfold wid
    rw [if_neg (by omega)]
    rfl
  rw [e]
  exact hw
theorem rng_d {a : Nat} (h : 114 ≤ a) : rng a = (-2147483648, 2147483647) := by
  unfold rng
  split <;> first | rfl | (exfalso; omega)
theorem any_d {a : Nat} (h : 114 ≤ a) (x : Int32) : (rng a).1 ≤ x.toInt ∧ x.toInt ≤ (rng a).2 := by
  rw [rng_d h]
  exact any_r x
theorem nz_of {x : Int32} (h : x.toInt ≠ 0) : ¬ x = 0 := fun q => h (by rw [q]; decide)
theorem bnot_t {q : Bool} (h : (!q) = false) : q = true := by cases q <;> simp_all
theorem bnot_f {q : Bool} (h : (!q) = true) : q = false := by cases q <;> simp_all
theorem and_1 {x z : Int32} (e : x &&& 1 = z) : 0 ≤ z.toInt ∧ z.toInt ≤ 1 := by
  have h : z.toBitVec.toNat < 2 := by
    rw [← e]
    show ((x &&& 1).toBitVec).toNat < 2
    rw [Int32.toBitVec_and, BitVec.toNat_and]
    exact Nat.lt_of_le_of_lt Nat.and_le_right (by decide)
  have h2 : z.toInt = (z.toBitVec.toNat : Int) := by
    show z.toBitVec.toInt = _
    rw [BitVec.toInt_eq_toNat_cond, if_pos (by omega)]
  omega
theorem wid_row {W : List Nat} {z : Nat} (h : 63 ≤ z ∧ z ≤ 68) (hw : ∀ x ∈ [63, 64, 65, 66, 67, 68], x ∈ W) : wid z (4, 60) ∈ W := by
  have e : wid z (4, 60) = z := by
    unfold wid
    rw [if_pos (by omega)]
  rw [e]
  refine hw z ?_
  rcases (show z = 63 ∨ z = 64 ∨ z = 65 ∨ z = 66 ∨ z = 67 ∨ z = 68 by omega) with rfl | rfl | rfl | rfl | rfl | rfl <;> decide
theorem any_w {a : Nat} (h : rng a = (-2147483648, 2147483647)) (x : Int32) : (rng a).1 ≤ x.toInt ∧ x.toInt ≤ (rng a).2 := by
  rw [h]
  exact any_r x
theorem shr_4 {x z : Int32} (e : x >>> (4 &&& 31) = z) : z.toInt = x.toInt / 16 := by
  rw [← e, show ((4 : Int32) &&& 31) = 4 by decide, pk_shr x 4 4 (by decide), Int.shiftRight_eq_div_pow]
  rfl
theorem shr_6 {x z : Int32} (e : x >>> (6 &&& 31) = z) : z.toInt = x.toInt / 64 := by
  rw [← e, show ((6 : Int32) &&& 31) = 6 by decide, pk_shr x 6 6 (by decide), Int.shiftRight_eq_div_pow]
  rfl
theorem and_15 {x z : Int32} (e : x &&& 15 = z) : 0 ≤ z.toInt ∧ z.toInt ≤ 15 := by
  have h : z.toBitVec.toNat < 16 := by
    rw [← e]
    show ((x &&& 15).toBitVec).toNat < 16
    rw [Int32.toBitVec_and, BitVec.toNat_and]
    exact Nat.lt_of_le_of_lt Nat.and_le_right (by decide)
  have h2 : z.toInt = (z.toBitVec.toNat : Int) := by
    show z.toBitVec.toInt = _
    rw [BitVec.toInt_eq_toNat_cond, if_pos (by omega)]
  omega
theorem and_255 {x z : Int32} (e : x &&& 255 = z) : 0 ≤ z.toInt ∧ z.toInt ≤ 255 := by
  have h : z.toBitVec.toNat < 256 := by
    rw [← e]
    show ((x &&& 255).toBitVec).toNat < 256
    rw [Int32.toBitVec_and, BitVec.toNat_and]
    exact Nat.lt_of_le_of_lt Nat.and_le_right (by decide)
  have h2 : z.toInt = (z.toBitVec.toNat : Int) := by
    show z.toBitVec.toInt = _
    rw [BitVec.toInt_eq_toNat_cond, if_pos (by omega)]
  omega
variable {d : Nat} {T : aTab} {Q : Option aV → aH → Prop} {pc : Nat} {al : aL} {st : List aV} {h : aH} {kc ks n i : Nat}
theorem ur_swi {x : Int32} {q t : Nat} {dd : Int} {ps : List (Int × Int)} (ho : aAt T pc = some (.inl (oSwi q dd ps))) (hx : (q : Int) + Op.lookupswitch.offset ps dd x.toInt = (t : Int)) (k : uRun T (uCall Mt d) Q t (al, st, h, kc, ks)) : uRun T (uCall Mt d) Q pc (al, .inl x :: st, h, kc, ks) := ur_st ho (by
  unfold oSwi
  dsimp only
  rw [hx, if_pos (Int.natCast_nonneg t), Int.toNat_natCast]) k
/-- what lies in the row of texts -/
theorem ur_txa {j : Int32} (ho : aAt T pc = some (.inl (oAldA n 6))) (hO : OK h) (hj : 0 ≤ j.toInt ∧ j.toInt < 9) (k : ∀ z, z < 114 ∧ tg h z = (109, 2) → uRun T (uCall Mt d) Q n (al, .inr (.inr (some z)) :: st, h, kc, ks)) : uRun T (uCall Mt d) Q pc (al, .inl j :: .inr (.inr (some 19)) :: st, h, kc, ks) := by
  obtain ⟨x, h1, -, h2⟩ := hO.arr (hO.fix 19 (by decide) rfl) (by decide)
  have h2 : x = .inr (.inr [some 23, some 25, some 27, some 29, some 31, some 33, some 35, some 37, some 39]) := h2
  subst h2
  have hz : ∃ z, ([some 23, some 25, some 27, some 29, some 31, some 33, some 35, some 37, some 39] : List (Option Nat))[j.toNatClampNeg]? = some (some z) ∧ z < 114 ∧ T0.getD z (999, 0) = (109, 2) := by
    have e : j.toNatClampNeg = j.toInt.toNat := rfl
    rw [e]
    rcases (show j.toInt = 0 ∨ j.toInt = 1 ∨ j.toInt = 2 ∨ j.toInt = 3 ∨ j.toInt = 4 ∨ j.toInt = 5 ∨ j.toInt = 6 ∨ j.toInt = 7 ∨ j.toInt = 8 by omega) with q | q | q | q | q | q | q | q | q
    · rw [q]; exact ⟨23, rfl, by decide, rfl⟩
    · rw [q]; exact ⟨25, rfl, by decide, rfl⟩
    · rw [q]; exact ⟨27, rfl, by decide, rfl⟩
    · rw [q]; exact ⟨29, rfl, by decide, rfl⟩
    · rw [q]; exact ⟨31, rfl, by decide, rfl⟩
    · rw [q]; exact ⟨33, rfl, by decide, rfl⟩
    · rw [q]; exact ⟨35, rfl, by decide, rfl⟩
    · rw [q]; exact ⟨37, rfl, by decide, rfl⟩
    · rw [q]; exact ⟨39, rfl, by decide, rfl⟩
  obtain ⟨z, h3, h4, h5⟩ := hz
  exact ur_aldA ho h1 (pos_ix hj.1) h3 (k z ⟨h4, hO.fix z h4 h5⟩)
end RUW
section RUX
theorem ti_addw {x y z : Int32} (e : x + y = z) : z.toInt = x.toInt + y.toInt ∨ z.toInt = x.toInt + y.toInt - 4294967296 ∨ z.toInt = x.toInt + y.toInt + 4294967296 := by
  have h1 := Int32.le_toInt x
  have h2 := Int32.toInt_lt x
  have h3 := Int32.le_toInt y
  have h4 := Int32.toInt_lt y
  rw [← e, Int32.toInt_add]
  unfold Int.bmod
  simp only []
  split <;> omega
theorem ti_negw {x z : Int32} (e : -x = z) : z.toInt = -x.toInt ∨ x.toInt = -2147483648 ∧ z.toInt = -2147483648 := by
  have h1 := Int32.le_toInt x
  have h2 := Int32.toInt_lt x
  rw [← e, Int32.toInt_neg]
  unfold Int.bmod
  simp only []
  split <;> omega
end RUX
