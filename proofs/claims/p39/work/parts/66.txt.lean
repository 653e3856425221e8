/-! TEXTS by their places; a field of an object as a number -/
section TXP
def txL : List Nat := [9, 11, 23, 25, 27, 29, 31, 33, 35, 37, 39]
theorem tx_in {h : aH} (hO : OK h) {a : Nat} (ha : a < 114) (ht : tg h a = (109, 2)) : a ∈ txL := (show ∀ j, j < 114 → T0.getD j (999, 0) = (109, 2) → j ∈ txL by decide +kernel) a ha ((hO.2 a ha).symm.trans ht)
theorem wid_tx {W : List Nat} {h : aH} {t : Nat × Nat} (hO : OK h) {a : Nat} (ha : a < 114) (ht : tg h a = (109, 2)) (hw : ∀ j ∈ txL, 1000 + 100 * j + 1 ∈ W) : 1000 + 100 * wid a t + 1 ∈ W := by
  rw [wid_f ha]
  exact hw a (tx_in hO ha ht)
theorem wid_tx1 {W : List Nat} {h : aH} {t : Nat × Nat} (hO : OK h) {a : Nat} (ha : a < 114) (ht : tg h a = (109, 2)) (hw : ∀ j ∈ txL, j + 1 ∈ W) : wid (a + 1) t ∈ W := by
  have hi := tx_in hO ha ht
  rw [wid_f ((show ∀ j ∈ txL, j + 1 < 114 by decide) a hi)]
  exact hw a hi
theorem rng_tx {h : aH} (hO : OK h) {a : Nat} (ha : a < 114) (ht : tg h a = (109, 2)) : rng (a + 1) = (-2147483648, 2147483647) := (show ∀ j ∈ txL, rng (j + 1) = (-2147483648, 2147483647) by decide) a (tx_in hO ha ht)
def fO (h : aH) (a k : Nat) : Int := match h[a]? with
  | some (Sum.inl (_, fs)) => match fs[k]? with
    | some (Sum.inl x) => x.toInt
    | _ => 0
  | _ => 0
theorem fO_of {h : aH} {a ci k : Nat} {fs : List aV} {x : Int32} (hc : h[a]? = some (.inl (ci, fs))) (hf : fs[k]? = some (.inl x)) : fO h a k = x.toInt := by
  unfold fO
  rw [hc]
  show (match fs[k]? with
    | some (Sum.inl x) => x.toInt
    | _ => 0) = x.toInt
  rw [hf]
/-- how many bodies a call runs at most -/
def bq : Nat → Int
  | 0 => 0
  | n + 1 => 1 + 2 * bq n
theorem bq_s (n : Nat) : bq (n + 1) = 1 + 2 * bq n := rfl
theorem bq_0 : ∀ n, 0 ≤ bq n
  | 0 => Int.le_refl _
  | n + 1 => by
    have := bq_0 n
    rw [bq_s]
    omega
theorem bq_25 : bq 25 ≤ 90000000 := by decide
end TXP
section TXQ
theorem ap_0 {h : aH} {c : aC} : (h ++ [c])[h.length]? = some c := by
  rw [List.getElem?_append_right (Nat.le_refl _), Nat.sub_self]
  rfl
theorem ti_mulB {x y z : Int32} {b d : Int} (e : x * y = z) (h1 : 0 ≤ x.toInt ∧ x.toInt ≤ b) (h2 : 0 ≤ y.toInt ∧ y.toInt ≤ d) (hb : b * d ≤ 2147483647) : z.toInt = x.toInt * y.toInt ∧ 0 ≤ z.toInt ∧ z.toInt ≤ b * d := by
  have a1 : x.toInt * y.toInt ≤ b * d := Int.mul_le_mul h1.2 h2.2 h2.1 (by omega)
  have a2 : 0 ≤ x.toInt * y.toInt := Int.mul_nonneg h1.1 h2.1
  have a3 : z.toInt = x.toInt * y.toInt := by
    rw [← e, Int32.toInt_mul]
    generalize x.toInt * y.toInt = q at *
    generalize b * d = r at *
    unfold Int.bmod
    simp only []
    split <;> omega
  exact ⟨a3, by omega, by omega⟩
theorem ti_divP {x y z : Int32} (e : x / y = z) (hx : 0 ≤ x.toInt) (hy : 1 ≤ y.toInt) : 0 ≤ z.toInt ∧ z.toInt ≤ x.toInt := by
  have h2 := Int32.toInt_lt x
  have a := ti_div e rfl (by omega) hx
  have h3 : x.toInt / y.toInt ≤ x.toInt := Int.ediv_le_self _ hx
  have h4 : 0 ≤ x.toInt / y.toInt := Int.ediv_nonneg hx (by omega)
  omega
end TXQ
