/-! MORE: what lies behind the fixed cells; static arrays by range -/
section MOR
theorem scA_d {a : Nat} (h : 114 ≤ a) : scA a = false := by
  cases e : scA a with
  | false => rfl
  | true =>
    exfalso
    have h2 := List.elem_iff.mp (show List.elem a _ = true from e)
    simp only [List.mem_cons, List.not_mem_nil, or_false] at h2
    omega
theorem lAb_r : ∀ n : Nat, n < 8 → -1 ≤ (lAb.getD n 0).toInt ∧ (lAb.getD n 0).toInt ≤ 2 := by decide
variable {d : Nat} {T : aTab} {Q : Option aV → aH → Prop} {pc : Nat} {al : aL} {st : List aV} {h : aH} {kc ks n i : Nat}
theorem ur_abv {x : Int32} (ho : aAt T pc = some (.inl (oRd1 n i lAb))) (hi : al[i]? = some (some (.inl x))) (h0 : 0 ≤ x.toInt ∧ x.toInt ≤ 7) (k : ∀ z : Int32, -1 ≤ z.toInt ∧ z.toInt ≤ 2 → lAb.getD x.toInt.toNat 0 = z → uRun T (uCall Mt d) Q n (al, .inl z :: st, h, kc, ks)) : uRun T (uCall Mt d) Q pc (al, st, h, kc, ks) := ur_rd1 ho hi h0.1 (by show x.toInt < (8 : Int); omega) rfl (k _ (lAb_r _ (by omega)) rfl)
theorem ur_bod {j : Nat} {x y : Int32} (ho : aAt T pc = some (.inl (oRd4 n i j lBo))) (hi : al[i]? = some (some (.inl x))) (hj : al[j]? = some (some (.inl y))) (h0 : 0 ≤ x.toInt ∧ x.toInt ≤ 7) (h1 : 0 ≤ y.toInt ∧ y.toInt ≤ 3) (k : ∀ z : Int32, lBo.getD (x * 4 + y).toInt.toNat 0 = z → uRun T (uCall Mt d) Q n (al, .inl z :: st, h, kc, ks)) : uRun T (uCall Mt d) Q pc (al, st, h, kc, ks) := by
  have e1 : (x * 4).toInt = x.toInt * 4 := ti_mulL rfl (by decide) (by omega) (by omega)
  have e2 : (x * 4 + y).toInt = x.toInt * 4 + y.toInt := (ti_add rfl (by omega) (by omega)).trans (by rw [e1])
  exact ur_rd4 ho hi hj rfl (by omega) (by show _ < (32 : Int); omega) rfl (k _ rfl)
end MOR
