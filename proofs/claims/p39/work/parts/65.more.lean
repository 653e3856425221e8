/-! MORE: what lies behind the fixed cells; static arrays by range -/
section MOR
theorem lAb_r : ∀ n : Nat, n < 8 → -1 ≤ (lAb.getD n 0).toInt ∧ (lAb.getD n 0).toInt ≤ 2 := by decide
variable {d : Nat} {T : aTab} {Q : Option aV → aH → Prop} {pc : Nat} {al : aL} {st : List aV} {h : aH} {kc ks n i : Nat}
theorem ur_abv {x : Int32} (ho : aAt T pc = some (.inl (oRd1 n i lAb))) (hi : al[i]? = some (some (.inl x))) (h0 : 0 ≤ x.toInt ∧ x.toInt ≤ 7) (k : ∀ z : Int32, -1 ≤ z.toInt ∧ z.toInt ≤ 2 → lAb.getD x.toInt.toNat 0 = z → uRun T (uCall Mt d) Q n (al, .inl z :: st, h, kc, ks)) : uRun T (uCall Mt d) Q pc (al, st, h, kc, ks) := ur_rd1 ho hi h0.1 (by show x.toInt < (8 : Int); omega) rfl (k _ (lAb_r _ (by omega)) rfl)
theorem ur_bod {j : Nat} {x y : Int32} (ho : aAt T pc = some (.inl (oRd4 n i j lBo))) (hi : al[i]? = some (some (.inl x))) (hj : al[j]? = some (some (.inl y))) (h0 : 0 ≤ x.toInt ∧ x.toInt ≤ 7) (h1 : 0 ≤ y.toInt ∧ y.toInt ≤ 3) (k : ∀ z : Int32, lBo.getD (x * 4 + y).toInt.toNat 0 = z → uRun T (uCall Mt d) Q n (al, .inl z :: st, h, kc, ks)) : uRun T (uCall Mt d) Q pc (al, st, h, kc, ks) := by
  have e1 : (x * 4).toInt = x.toInt * 4 := ti_mulL rfl (by decide) (by omega) (by omega)
  have e2 : (x * 4 + y).toInt = x.toInt * 4 + y.toInt := (ti_add rfl (by omega) (by omega)).trans (by rw [e1])
  exact ur_rd4 ho hi hj rfl (by omega) (by show _ < (32 : Int); omega) rfl (k _ rfl)
end MOR
section MOR2
theorem ixF_r (c : Int32) : ∀ (l : List Int32) (k : Nat), k + l.length < 2147483648 → (ixF c l k).toInt = -1 ∨ (k : Int) ≤ (ixF c l k).toInt ∧ (ixF c l k).toInt < (k : Int) + l.length
  | [], k, _ => Or.inl (show (-1 : Int32).toInt = -1 by decide)
  | b :: l, k, h => by
    rw [List.length_cons] at h ⊢
    rw [ixF]
    split
    · right
      rw [show (Int32.ofNat k).toInt = (k : Int) from Int32.toInt_ofNat_of_lt (by omega)]
      omega
    · rcases ixF_r c l (k + 1) (by omega) with q | q
      · exact Or.inl q
      · right
        omega
variable {d : Nat} {T : aTab} {Q : Option aV → aH → Prop} {pc : Nat} {al : aL} {st : List aV} {h : aH} {kc ks n i : Nat}
theorem ur_idxV {x : Int32} (ho : aAt T pc = some (.inl (oIdx n i))) (hi : al[i]? = some (some (.inl x))) (h0 : 97 ≤ x.toInt ∧ x.toInt ≤ 122) (hl : st.length ≤ 2) (k : ∀ z : Int32, -1 ≤ z.toInt ∧ z.toInt ≤ 9 → ixF x lNm 0 = z → uRun T (uCall Mt d) Q n (al, .inl z :: st, h, kc, ks)) : uRun T (uCall Mt d) Q pc (al, st, h, kc, ks) := ur_idx ho hi h0.1 h0.2 hl (k _ (by
  have := ixF_r x lNm 0 (by decide)
  have e : lNm.length = 10 := rfl
  omega) rfl)
theorem ur_astAV {W : List Nat} {a kd ci m v : Nat} {xs : List (Option Nat)} {fs : List aV} {j : Int32} (ho : aAt T pc = some (.inl (oAstA n kd ci))) (hO : OK h) (ha : h[a]? = some (.inr (kd, .inr (.inr xs)))) (hv : h[v]? = some (.inl (ci, fs))) (hk : (kd = 5 ∧ 114 ≤ v ∧ tg h v = (102, 14)) ∨ (kd = 7 ∧ 114 ≤ v ∧ tg h v = (110, 13))) (hn : xs.length = m) (hj : 0 ≤ j.toInt ∧ j.toInt < (m : Int)) (hw : scA a = true ∨ (kd, m) ∈ meM ∨ wid a (kd, m) ∈ W) (k : ∀ h', OK h' → un W h h' → (∀ b, b ≠ a → h'[b]? = h[b]?) → h'[a]? = some (.inr (kd, .inr (.inr (xs.set j.toInt.toNat (some v))))) → uRun T (uCall Mt d) Q n (al, st, h', kc, ks)) : uRun T (uCall Mt d) Q pc (al, .inr (.inr (some v)) :: .inl j :: .inr (.inr (some a)) :: st, h, kc, ks) := by
  have ht : tgC (.inr (kd, .inr (.inr (xs.set j.toInt.toNat (some v))))) = tgC (.inr (kd, .inr (.inr xs))) := by simp [tgC, aLen]
  have hs := hO.1 a _ ha
  have el : ∀ {t : Nat × Nat}, 114 ≤ v ∧ tg h v = t → (∀ (i : Nat) z, xs[i]? = some (some z) → 114 ≤ z ∧ tg h z = t) → ∀ (i : Nat) z, (xs.set j.toInt.toNat (some v))[i]? = some (some z) → 114 ≤ z ∧ tg h z = t := by
    intro t h1 h2 i z hz
    by_cases q : j.toInt.toNat = i
    · subst q
      rw [List.getElem?_set_self (lt_len hn hj)] at hz
      cases hz
      exact h1
    · rw [List.getElem?_set_ne q] at hz
      exact h2 i z hz
  have hs2 : sh (tg h) a (.inr (kd, .inr (.inr (xs.set j.toInt.toNat (some v))))) := by
    rcases hk with ⟨rfl, h1⟩ | ⟨rfl, h1⟩
    · obtain ⟨ys, e, h2⟩ := hs
      cases e
      exact ⟨_, rfl, el h1 h2⟩
    · obtain ⟨ys, e, h2⟩ := hs
      cases e
      exact ⟨_, rfl, el h1 h2⟩
  refine ur_astA ho ha hv (pos_ix hj.1) (lt_len hn hj) (k _ (hO.set ha ht hs2) (un.ars ha (by simp [aLen]) ?_) set_ne (hs_eq ha))
  show scA a = true ∨ (kd, xs.length) ∈ meM ∨ wid a (kd, xs.length) ∈ W
  rw [hn]
  exact hw
/-- a stretch of one array comes into another: the ranges stay where they are any -/
theorem ur_cpIV {W : List Nat} {m dp sp : Int32} {a1 a0 n0 n1 : Nat} {xs ys : List Int32} (ho : aAt T pc = some (.inl (oCpI n))) (hO : OK h) (ha0 : h[a0]? = some (.inr (0, .inl xs))) (ha1 : h[a1]? = some (.inr (0, .inl ys))) (hn0 : xs.length = n0) (hn1 : ys.length = n1) (b1 : 0 ≤ sp.toInt ∧ 0 ≤ dp.toInt ∧ 0 ≤ m.toInt ∧ sp.toInt + m.toInt ≤ (n0 : Int) ∧ dp.toInt + m.toInt ≤ (n1 : Int)) (b6 : st.length ≤ 4) (hr : rng a1 = (-2147483648, 2147483647)) (hw : scA a1 = true ∨ (0, n1) ∈ meM ∨ wid a1 (0, n1) ∈ W) (k : ∀ h', OK h' → un W h h' → (∀ b, b ≠ a1 → h'[b]? = h[b]?) → uRun T (uCall Mt d) Q n (al, st, h', kc, ks)) : uRun T (uCall Mt d) Q pc (al, .inl m :: .inl dp :: .inr (.inr (some a1)) :: .inl sp :: .inr (.inr (some a0)) :: st, h, kc, ks) := by
  refine ur_cpI ho ha0 ha1 b1.1 b1.2.1 b1.2.2.1 (by omega) (by omega) b6 (k _ (hO.set ha1 (by simp [tgC, aLen, cpL_len]) ⟨_, rfl, fun i y _ => any_w hr y⟩) (un.ars ha1 (by simp [aLen, cpL_len]) ?_) set_ne)
  show scA a1 = true ∨ (0, ys.length) ∈ meM ∨ wid a1 (0, ys.length) ∈ W
  rw [hn1]
  exact hw
theorem fill_el {a n : Nat} {v : Int32} (hv : (rng a).1 ≤ v.toInt ∧ v.toInt ≤ (rng a).2) : elR a (List.replicate n v) := fun i y hy => by
  rw [List.getElem?_replicate] at hy
  split at hy
  · cases hy
    exact hv
  · cases hy
/-- Arrays.fill of ints, of longs -/
theorem sf_fillI {W : List Nat} {a m : Nat} {v : Int32} {xs : List Int32} (hO : OK h) (ha : h[a]? = some (.inr (0, .inl xs))) (hn : xs.length = m) (hm : m < 2147483648) (hv : (rng a).1 ≤ v.toInt ∧ v.toInt ≤ (rng a).2) (hw : scA a = true ∨ (0, m) ∈ meM ∨ wid a (0, m) ∈ W) (k : ∀ h', OK h' → un W h h' → (∀ b, b ≠ a → h'[b]? = h[b]?) → Q none h') : uCall Mt (d + 1) 307 [.inr (.inr (some a)), .inl v] h kc ks Q := by
  refine uCall_kc (mc := 0) (ms := 0) (uc_post (sp_fillI (by omega) ha) (fun r h' e => ?_))
  obtain ⟨rfl, rfl⟩ := e
  refine k _ (hO.set ha (by simp [tgC, aLen]) ⟨_, rfl, fill_el hv⟩) (un.ars ha (by simp [aLen]) ?_) set_ne
  show scA a = true ∨ (0, xs.length) ∈ meM ∨ wid a (0, xs.length) ∈ W
  rw [hn]
  exact hw
theorem sf_fillJ {W : List Nat} {a m : Nat} {v : Int64} {xs : List Int64} (hO : OK h) (ha : h[a]? = some (.inr (4, .inr (.inl xs)))) (hn : xs.length = m) (hm : m < 2147483648) (hw : scA a = true ∨ (4, m) ∈ meM ∨ wid a (4, m) ∈ W) (k : ∀ h', OK h' → un W h h' → (∀ b, b ≠ a → h'[b]? = h[b]?) → Q none h') : uCall Mt (d + 1) 306 [.inr (.inr (some a)), .inr (.inl v)] h kc ks Q := by
  refine uCall_kc (mc := 0) (ms := 0) (uc_post (sp_fillJ (by omega) ha) (fun r h' e => ?_))
  obtain ⟨rfl, rfl⟩ := e
  refine k _ (hO.set ha (by simp [tgC, aLen]) ⟨_, rfl⟩) (un.ars ha (by simp [aLen]) ?_) set_ne
  show scA a = true ∨ (4, xs.length) ∈ meM ∨ wid a (4, xs.length) ∈ W
  rw [hn]
  exact hw
end MOR2
