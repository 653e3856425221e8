/-! RULES over the world: each answer gets a name, each heap too -/
section RUV
theorem i0 : ((0 : Int32)).toInt = 0 := by decide
theorem le_to {x y : Int32} (c : decide (x ≤ y) = true) : x.toInt ≤ y.toInt := Int32.le_iff_toInt_le.mp (of_decide_eq_true c)
theorem le_no {x y : Int32} (c : decide (x ≤ y) = false) : y.toInt < x.toInt := Int32.lt_iff_toInt_lt.mp (Int32.not_le.mp (of_decide_eq_false c))
theorem ne_to {x y : Int32} (c : decide (x ≠ y) = true) : x.toInt ≠ y.toInt := fun q => of_decide_eq_true c (Int32.toInt_inj.mp q)
theorem ne_no {x y : Int32} (c : decide (x ≠ y) = false) : x.toInt = y.toInt := by rw [Decidable.byContradiction (fun q => of_decide_eq_false c q)]
theorem wi_toL {x lo hi : Int32} {a b : Int} (c : wi x lo hi = true) (ha : lo.toInt = a) (hb : hi.toInt = b) : a ≤ x.toInt ∧ x.toInt ≤ b := by
  have h := wi_to c
  omega
theorem wi_noL {x lo hi : Int32} {a b : Int} (c : wi x lo hi = false) (ha : lo.toInt = a) (hb : hi.toInt = b) : x.toInt < a ∨ b < x.toInt := by
  have h := wi_no c
  omega
theorem ti_add {x y z : Int32} (e : x + y = z) (h1 : -2147483648 ≤ x.toInt + y.toInt) (h2 : x.toInt + y.toInt ≤ 2147483647) : z.toInt = x.toInt + y.toInt := by
  rw [← e, Int32.toInt_add]
  unfold Int.bmod
  simp only []
  split <;> omega
theorem ti_sub {x y z : Int32} (e : x - y = z) (h1 : -2147483648 ≤ x.toInt - y.toInt) (h2 : x.toInt - y.toInt ≤ 2147483647) : z.toInt = x.toInt - y.toInt := by
  rw [← e, Int32.toInt_sub]
  unfold Int.bmod
  simp only []
  split <;> omega
theorem ti_mulL {x y z : Int32} {c : Int} (e : x * y = z) (hy : y.toInt = c) (h1 : -2147483648 ≤ x.toInt * c) (h2 : x.toInt * c ≤ 2147483647) : z.toInt = x.toInt * c := by
  rw [← e, Int32.toInt_mul, hy]
  unfold Int.bmod
  simp only []
  split <;> omega
theorem ti_mulR {x y z : Int32} {c : Int} (e : x * y = z) (hx : x.toInt = c) (h1 : -2147483648 ≤ c * y.toInt) (h2 : c * y.toInt ≤ 2147483647) : z.toInt = c * y.toInt := by
  rw [← e, Int32.toInt_mul, hx]
  unfold Int.bmod
  simp only []
  split <;> omega
theorem ti_neg {x z : Int32} (e : -x = z) (h1 : -2147483648 < x.toInt) : z.toInt = -x.toInt := by
  have h2 := Int32.toInt_lt x
  rw [← e, Int32.toInt_neg]
  unfold Int.bmod
  simp only []
  split <;> omega
theorem ti_div {x y z : Int32} {c : Int} (e : x / y = z) (hy : y.toInt = c) (hc : 0 < c) (hx : 0 ≤ x.toInt) : z.toInt = x.toInt / c := by
  have h2 := Int32.toInt_lt x
  rw [← e, Int32.toInt_div, hy, Int.tdiv_eq_ediv_of_nonneg hx]
  have h3 : x.toInt / c ≤ x.toInt := Int.ediv_le_self _ hx
  have h4 : 0 ≤ x.toInt / c := Int.ediv_nonneg hx (by omega)
  unfold Int.bmod
  simp only []
  split <;> omega
theorem ti_rem {x y z : Int32} {c : Int} (e : x - x / y * y = z) (hy : y.toInt = c) (hc : 0 < c) (hx : 0 ≤ x.toInt) : z.toInt = x.toInt % c := by
  have h2 := Int32.toInt_lt x
  have hd : (x / y).toInt = x.toInt / c := ti_div rfl hy hc hx
  have h5 := Int.mul_ediv_add_emod x.toInt c
  have h6 := Int.emod_nonneg x.toInt (b := c) (by omega)
  have h7 := Int.emod_lt_of_pos x.toInt hc
  have h8 : 0 ≤ c * (x.toInt / c) := Int.mul_nonneg (by omega) (Int.ediv_nonneg hx (by omega))
  have hm : (x / y * y).toInt = c * (x.toInt / c) := by
    rw [Int32.toInt_mul, hd, hy, Int.mul_comm]
    generalize c * (x.toInt / c) = q at *
    generalize x.toInt % c = r at *
    unfold Int.bmod
    simp only []
    split <;> omega
  rw [← e, Int32.toInt_sub, hm]
  generalize c * (x.toInt / c) = q at *
  generalize x.toInt % c = r at *
  unfold Int.bmod
  simp only []
  split <;> omega
theorem pos_ix {j : Int32} (h : 0 ≤ j.toInt) : ¬ j < 0 := fun q => by
  have := Int32.lt_iff_toInt_lt.mp q
  rw [i0] at this
  omega
theorem ne_tg {h : aH} {a b : Nat} {t t' : Nat × Nat} (ha : tg h a = t) (hb : tg h b = t') (hn : t ≠ t') : a ≠ b := fun q => hn (by rw [← ha, ← hb, q])
variable {d : Nat} {T : aTab} {Q : Option aV → aH → Prop} {pc : Nat} {al : aL} {st : List aV} {h : aH} {kc ks n i : Nat}
theorem ur_binV {x y : Int32} {q : Int32 → Int32 → Int32} (ho : aAt T pc = some (.inl (oBin n q))) (k : ∀ z, q x y = z → uRun T (uCall Mt d) Q n (al, .inl z :: st, h, kc, ks)) : uRun T (uCall Mt d) Q pc (al, .inl y :: .inl x :: st, h, kc, ks) := ur_bin ho (k _ rfl)
theorem ur_unV {x : Int32} {q : Int32 → Int32} (ho : aAt T pc = some (.inl (oUn n q))) (k : ∀ z, q x = z → uRun T (uCall Mt d) Q n (al, .inl z :: st, h, kc, ks)) : uRun T (uCall Mt d) Q pc (al, .inl x :: st, h, kc, ks) := ur_un ho (k _ rfl)
theorem ur_divV {x y : Int32} {q : Int32 → Int32 → Int32} (ho : aAt T pc = some (.inl (oDiv n q))) (hy : ¬ y = 0) (k : ∀ z, q x y = z → uRun T (uCall Mt d) Q n (al, .inl z :: st, h, kc, ks)) : uRun T (uCall Mt d) Q pc (al, .inl y :: .inl x :: st, h, kc, ks) := ur_div ho hy (k _ rfl)
theorem ur_incV {x dd : Int32} (al' : Int32 → aL) (ho : aAt T pc = some (.inl (oInc n i dd))) (hi : al[i]? = some (some (.inl x))) (hal : ∀ z, aSt1 al i (.inl z) = al' z) (k : ∀ z, x + dd = z → uRun T (uCall Mt d) Q n (al' z, st, h, kc, ks)) : uRun T (uCall Mt d) Q pc (al, st, h, kc, ks) := ur_inc ho hi (by rw [hal]; exact k _ rfl)
theorem ur_binJV {x y : Int64} {q : Int64 → Int64 → Int64} (ho : aAt T pc = some (.inl (oBinJ n q))) (k : ∀ z, q x y = z → uRun T (uCall Mt d) Q n (al, .inr (.inl z) :: st, h, kc, ks)) : uRun T (uCall Mt d) Q pc (al, .inr (.inl y) :: .inr (.inl x) :: st, h, kc, ks) := ur_binJ ho (k _ rfl)
theorem ur_shJV {x : Int64} {y : Int32} {q : Int64 → Int32 → Int64} (ho : aAt T pc = some (.inl (oShJ n q))) (k : ∀ z, q x y = z → uRun T (uCall Mt d) Q n (al, .inr (.inl z) :: st, h, kc, ks)) : uRun T (uCall Mt d) Q pc (al, .inl y :: .inr (.inl x) :: st, h, kc, ks) := ur_shJ ho (k _ rfl)
theorem ur_cmpJV {x y : Int64} {q : Int64 → Int64 → Int32} (ho : aAt T pc = some (.inl (oCmpJ n q))) (k : ∀ z, q x y = z → uRun T (uCall Mt d) Q n (al, .inl z :: st, h, kc, ks)) : uRun T (uCall Mt d) Q pc (al, .inr (.inl y) :: .inr (.inl x) :: st, h, kc, ks) := ur_cmpJ ho (k _ rfl)
theorem ur_i2lV {x : Int32} (ho : aAt T pc = some (.inl (oI2L n))) (k : ∀ z, x.toInt64 = z → uRun T (uCall Mt d) Q n (al, .inr (.inl z) :: st, h, kc, ks)) : uRun T (uCall Mt d) Q pc (al, .inl x :: st, h, kc, ks) := ur_i2l ho (k _ rfl)
theorem ur_l2iV {x : Int64} (ho : aAt T pc = some (.inl (oL2I n))) (k : ∀ z, x.toInt32 = z → uRun T (uCall Mt d) Q n (al, .inl z :: st, h, kc, ks)) : uRun T (uCall Mt d) Q pc (al, .inr (.inl x) :: st, h, kc, ks) := ur_l2i ho (k _ rfl)
theorem ur_absV {x : Int32} (ho : aAt T pc = some (.inl (oMabs n))) (hl : ¬ (9 ≤ (.inl x :: st : List aV).length)) (k : ∀ z, (-2147483648 < x.toInt → 0 ≤ z.toInt ∧ (z.toInt = x.toInt ∨ z.toInt = -x.toInt)) → (if 0 ≤ x then x else 0 - x) = z → uRun T (uCall Mt d) Q n (al, .inl z :: st, h, kc, ks)) : uRun T (uCall Mt d) Q pc (al, .inl x :: st, h, kc, ks) := ur_abs ho hl (k _ (fun hx => by
  have h2 := Int32.toInt_lt x
  split
  · rename_i q
    have := Int32.le_iff_toInt_le.mp q
    rw [i0] at this
    omega
  · rename_i q
    have q2 := Int32.lt_iff_toInt_lt.mp (Int32.not_le.mp q)
    rw [i0] at q2
    have := ti_sub (x := 0) (y := x) (z := 0 - x) rfl (by rw [i0]; omega) (by rw [i0]; omega)
    rw [i0] at this
    omega) rfl)
theorem ur_maxV {x y : Int32} (ho : aAt T pc = some (.inl (oMmax n))) (hl : ¬ (9 ≤ (.inl y :: .inl x :: st : List aV).length)) (k : ∀ z, x.toInt ≤ z.toInt ∧ y.toInt ≤ z.toInt ∧ (z.toInt = x.toInt ∨ z.toInt = y.toInt) → (if x < y then y else x) = z → uRun T (uCall Mt d) Q n (al, .inl z :: st, h, kc, ks)) : uRun T (uCall Mt d) Q pc (al, .inl y :: .inl x :: st, h, kc, ks) := ur_max ho hl (k _ (by
  split
  · rename_i q
    have := Int32.lt_iff_toInt_lt.mp q
    omega
  · rename_i q
    have := Int32.le_iff_toInt_le.mp (Int32.not_lt.mp q)
    omega) rfl)
theorem ur_minV {x y : Int32} (ho : aAt T pc = some (.inl (oMmin n))) (hl : ¬ (9 ≤ (.inl y :: .inl x :: st : List aV).length)) (k : ∀ z, z.toInt ≤ x.toInt ∧ z.toInt ≤ y.toInt ∧ (z.toInt = x.toInt ∨ z.toInt = y.toInt) → (if y < x then y else x) = z → uRun T (uCall Mt d) Q n (al, .inl z :: st, h, kc, ks)) : uRun T (uCall Mt d) Q pc (al, .inl y :: .inl x :: st, h, kc, ks) := ur_min ho hl (k _ (by
  split
  · rename_i q
    have := Int32.lt_iff_toInt_lt.mp q
    omega
  · rename_i q
    have := Int32.le_iff_toInt_le.mp (Int32.not_lt.mp q)
    omega) rfl)
theorem lt_len {j : Int32} {m k : Nat} (hn : k = m) (hj : 0 ≤ j.toInt ∧ j.toInt < (m : Int)) : j.toInt.toNat < k := by omega
theorem ur_aldV {a kd m : Nat} {xs : List Int32} {j : Int32} (ho : aAt T pc = some (.inl (oAld n kd))) (ha : h[a]? = some (.inr (kd, .inl xs))) (hn : xs.length = m) (hj : 0 ≤ j.toInt ∧ j.toInt < (m : Int)) (k : ∀ x, xs[j.toInt.toNat]? = some x → uRun T (uCall Mt d) Q n (al, .inl x :: st, h, kc, ks)) : uRun T (uCall Mt d) Q pc (al, .inl j :: .inr (.inr (some a)) :: st, h, kc, ks) := ur_ald ho ha (pos_ix hj.1) (List.getElem?_eq_getElem (lt_len hn hj)) (k _ (List.getElem?_eq_getElem (lt_len hn hj)))
theorem ur_aldJV {a m : Nat} {xs : List Int64} {j : Int32} (ho : aAt T pc = some (.inl (oAldJ n))) (ha : h[a]? = some (.inr (4, .inr (.inl xs)))) (hn : xs.length = m) (hj : 0 ≤ j.toInt ∧ j.toInt < (m : Int)) (k : ∀ x, xs[j.toInt.toNat]? = some x → uRun T (uCall Mt d) Q n (al, .inr (.inl x) :: st, h, kc, ks)) : uRun T (uCall Mt d) Q pc (al, .inl j :: .inr (.inr (some a)) :: st, h, kc, ks) := ur_aldJ ho ha (pos_ix hj.1) (List.getElem?_eq_getElem (lt_len hn hj)) (k _ (List.getElem?_eq_getElem (lt_len hn hj)))
theorem ur_aldAV {a kd m : Nat} {xs : List (Option Nat)} {j : Int32} (ho : aAt T pc = some (.inl (oAldA n kd))) (ha : h[a]? = some (.inr (kd, .inr (.inr xs)))) (hn : xs.length = m) (hj : 0 ≤ j.toInt ∧ j.toInt < (m : Int)) (k : ∀ x, xs[j.toInt.toNat]? = some x → uRun T (uCall Mt d) Q n (al, .inr (.inr x) :: st, h, kc, ks)) : uRun T (uCall Mt d) Q pc (al, .inl j :: .inr (.inr (some a)) :: st, h, kc, ks) := ur_aldA ho ha (pos_ix hj.1) (List.getElem?_eq_getElem (lt_len hn hj)) (k _ (List.getElem?_eq_getElem (lt_len hn hj)))
theorem ur_lenV {a kd m : Nat} {x : aArr} (ho : aAt T pc = some (.inl (oLen n))) (ha : h[a]? = some (.inr (kd, x))) (hn : aLen x = m) (hm : m < 2147483648) (k : ∀ z : Int32, z.toInt = (m : Int) → uRun T (uCall Mt d) Q n (al, .inl z :: st, h, kc, ks)) : uRun T (uCall Mt d) Q pc (al, .inr (.inr (some a)) :: st, h, kc, ks) := ur_len ho ha (k _ (by rw [hn, Int32.toInt_ofNat_of_lt hm]))
theorem set_ne {c : aC} {a : Nat} : ∀ b, b ≠ a → (h.set a c)[b]? = h[b]? := fun b hb => List.getElem?_set_ne (Ne.symm hb)
theorem shA_set {τ : Nat → Nat × Nat} {a kd : Nat} {xs : List Int32} {i : Nat} {y : Int32} (hkd : kd < 4) (hs : shA τ a kd (.inl xs)) (hy : (rng a).1 ≤ y.toInt ∧ y.toInt ≤ (rng a).2) : shA τ a kd (.inl (xs.set i y)) := by
  match kd, hkd, hs with
  | 0, _, hs =>
    obtain ⟨ys, e, k⟩ := hs
    cases e
    exact ⟨_, rfl, k.set hy⟩
  | 1, _, hs =>
    obtain ⟨ys, e, k⟩ := hs
    cases e
    exact ⟨_, rfl, k.set hy⟩
  | 2, _, hs =>
    obtain ⟨ys, e, k⟩ := hs
    cases e
    exact ⟨_, rfl, k.set hy⟩
  | 3, _, hs =>
    obtain ⟨ys, e, k⟩ := hs
    cases e
    exact ⟨_, rfl, k.set hy⟩
  | k + 4, hkd, _ => exact absurd hkd (by omega)
theorem ur_astV {W : List Nat} {a kd m : Nat} {xs : List Int32} {j x : Int32} {nar : Int32 → Int32} (ho : aAt T pc = some (.inl (oAst n kd nar))) (hO : OK h) (ha : h[a]? = some (.inr (kd, .inl xs))) (hkd : kd < 4) (hn : xs.length = m) (hj : 0 ≤ j.toInt ∧ j.toInt < (m : Int)) (hy : (rng a).1 ≤ (nar x).toInt ∧ (nar x).toInt ≤ (rng a).2) (hw : scA a = true ∨ (kd, m) ∈ meM ∨ wid a (kd, m) ∈ W) (k : ∀ h', OK h' → un W h h' → (∀ b, b ≠ a → h'[b]? = h[b]?) → h'[a]? = some (.inr (kd, .inl (xs.set j.toInt.toNat (nar x)))) → uRun T (uCall Mt d) Q n (al, st, h', kc, ks)) : uRun T (uCall Mt d) Q pc (al, .inl x :: .inl j :: .inr (.inr (some a)) :: st, h, kc, ks) := by
  have ht : tgC (.inr (kd, .inl (xs.set j.toInt.toNat (nar x)))) = tgC (.inr (kd, .inl xs)) := by simp [tgC, aLen]
  refine ur_ast ho ha (pos_ix hj.1) (lt_len hn hj) (k _ (hO.set ha ht (shA_set hkd (hO.1 a _ ha) hy)) (un.ars ha (by simp [aLen]) ?_) set_ne (hs_eq ha))
  show scA a = true ∨ (kd, xs.length) ∈ meM ∨ wid a (kd, xs.length) ∈ W
  rw [hn]
  exact hw
theorem ur_astJV {W : List Nat} {a m : Nat} {xs : List Int64} {j : Int32} {x : Int64} (ho : aAt T pc = some (.inl (oAstJ n))) (hO : OK h) (ha : h[a]? = some (.inr (4, .inr (.inl xs)))) (hn : xs.length = m) (hj : 0 ≤ j.toInt ∧ j.toInt < (m : Int)) (hw : scA a = true ∨ (4, m) ∈ meM ∨ wid a (4, m) ∈ W) (k : ∀ h', OK h' → un W h h' → (∀ b, b ≠ a → h'[b]? = h[b]?) → h'[a]? = some (.inr (4, .inr (.inl (xs.set j.toInt.toNat x)))) → uRun T (uCall Mt d) Q n (al, st, h', kc, ks)) : uRun T (uCall Mt d) Q pc (al, .inr (.inl x) :: .inl j :: .inr (.inr (some a)) :: st, h, kc, ks) := by
  have ht : tgC (.inr (4, .inr (.inl (xs.set j.toInt.toNat x)))) = tgC (.inr (4, .inr (.inl xs))) := by simp [tgC, aLen]
  refine ur_astJ ho ha (pos_ix hj.1) (lt_len hn hj) (k _ (hO.set ha ht ⟨_, rfl⟩) (un.ars ha (by simp [aLen]) ?_) set_ne (hs_eq ha))
  show scA a = true ∨ (4, xs.length) ∈ meM ∨ wid a (4, xs.length) ∈ W
  rw [hn]
  exact hw
theorem ur_putV {W : List Nat} {a ci k0 : Nat} {fs fs' : List aV} {v : aV} {ty : FieldType} (ho : aAt T pc = some (.inl (oPut n ci k0 ty))) (hO : OK h) (ha : h[a]? = some (.inl (ci, fs))) (hl : k0 < fs.length) (hf : aFit ty v = true) (he : fs.set k0 v = fs') (hs : shO (tg h) a ci fs') (hp : pOk ci k0 v = true) (hw : scr ci k0 = true ∨ 1000 + 100 * wid a (100 + ci, fs.length) + k0 ∈ W) (k : ∀ h', OK h' → un W h h' → (∀ b, b ≠ a → h'[b]? = h[b]?) → h'[a]? = some (.inl (ci, fs')) → uRun T (uCall Mt d) Q n (al, st, h', kc, ks)) : uRun T (uCall Mt d) Q pc (al, v :: .inr (.inr (some a)) :: st, h, kc, ks) := by
  have ht : tgC (.inl (ci, fs')) = tgC (.inl (ci, fs)) := by
    rw [← he]
    simp [tgC]
  refine ur_put ho ha hl hf ?_
  have hu := un.put ha hl hp hw
  rw [he] at hu ⊢
  exact k _ (hO.set ha ht hs) hu set_ne (hs_eq ha)
end RUV
