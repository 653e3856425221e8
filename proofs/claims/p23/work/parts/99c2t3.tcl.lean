/-! TEXTS OF THE CLASS, exactly; printed by program but for its head -/
section TCL
/- what a text holds -/
def txC (h : aH) (a : Nat) : List Int := ((arI h (a + 1)).take (fO h a 1).toNat).map Int32.toInt
def tqN (u : Int) : Nat := if u < 2 then (9 + 2 * u).toNat else (2 * u + 3).toNat
def plN (u : Int) : Nat := if u < 2 then u.toNat else (u - 8).toNat
theorem fO_c9 {h h' : aH} {a k : Nat} (e : h'[a]? = h[a]?) : fO h' a k = fO h a k := by
  unfold fO
  rw [e]
def TXQ : List Nat := [9, 11, 23, 25, 27, 29, 31, 33, 35, 37, 39]
theorem txC_c {h h' : aH} {a : Nat} (e1 : h'[a]? = h[a]?) (e2 : h'[a + 1]? = h[a + 1]?) : txC h' a = txC h a := by
  unfold txC fO
  rw [arI_c e2, e1]
theorem txC_un {W : List Nat} {h h' : aH} (hO : OK h) (hO' : OK h') (g : un W h h') (w : ∀ q ∈ TXQ, q + 1 ∉ W ∧ 1000 + 100 * q + 1 ∉ W) : ∀ q ∈ TXQ, txC h' q = txC h q := fun q hq => by
  have hk : ∀ q ∈ TXQ, q < 114 ∧ T0.getD q (999, 0) = (109, 2) ∧ q + 1 < 114 ∧ T0.getD (q + 1) (999, 0) = (0, 128) ∧ scA (q + 1) = false := by decide
  obtain ⟨k1, k2, k3, k4, k5⟩ := hk q hq
  obtain ⟨w1, w2⟩ := w q hq
  unfold txC
  rw [arI_keep (a := q + 1) (kd := 0) (n := 128) hO g k3 k4 (by decide) k5 (by decide) w1, fO_keep (a := q) (k := 1) (ci := 9) (n := 2) hO hO' g k1 k2 (by decide) rfl w2]
theorem TXQ_5 : ∀ q ∈ TXQ, q ≠ 5 ∧ q + 1 ≠ 5 := by decide
theorem txC_5 {h h' : aH} (e : ∀ b, b ≠ 5 → h'[b]? = h[b]?) : ∀ q ∈ TXQ, txC h' q = txC h q := fun q hq => txC_c (e _ (TXQ_5 q hq).1) (e _ (TXQ_5 q hq).2)
theorem TXQ_2 : ∀ q ∈ TXQ, ∀ r ∈ TXQ, q ≠ r → q ≠ r + 1 ∧ q + 1 ≠ r ∧ q + 1 ≠ r + 1 := by decide
theorem cpL_take {xs ys : List Int32} {s d m n : Nat} (hs : s = 0) (hd : d = 0) (hm : m = n) (h1 : n ≤ xs.length) (h2 : n ≤ ys.length) : (cpL 0 xs ys s d m).take n = xs.take n := by
  subst hs hd hm
  apply List.ext_getElem?
  intro k
  rw [List.getElem?_take, List.getElem?_take]
  by_cases q : k < m
  · rw [if_pos q, if_pos q, cpL_at (by omega), if_pos (by omega), Nat.zero_add, Nat.sub_zero, List.getD_eq_getElem?_getD, List.getElem?_eq_getElem (by omega)]
    rfl
  · rw [if_neg q, if_neg q]
theorem txC_tk {h0 h1 h' : aH} {a0 a1 : Nat} {m n s d : Int32} (d1 : ∀ b, b ≠ a0 → h1[b]? = h0[b]?) (w : wI h1 h' (a0 + 1) (cpL 0 (arI h1 a1) (arI h1 (a0 + 1)) s.toInt.toNat d.toInt.toNat m.toInt.toNat)) (hs : s.toInt = 0) (hd : d.toInt = 0) (hne : a1 ≠ a0) (l0 : (arI h1 a1).length = 128) (l1 : (arI h1 (a0 + 1)).length = 128) (f : fO h' a0 1 = n.toInt) (em : m.toInt = n.toInt) (b : 0 ≤ n.toInt ∧ n.toInt ≤ 128) : txC h' a0 = ((arI h0 a1).take n.toInt.toNat).map Int32.toInt := by
  unfold txC
  rw [w.1, f, cpL_take (by omega) (by omega) (by rw [em]) (by omega) (by omega), arI_c (d1 a1 hne)]
theorem ln_of {h : aH} {a kd n : Nat} {xs : List Int32} (hc : h[a]? = some (.inr (kd, .inl xs))) (hn : xs.length = n) : (arI h a).length = n := by
  rw [arI_of hc]
  exact hn
theorem txC_oth {h h' : aH} {a : Nat} (e : ∀ b, b ≠ a → b ≠ a + 1 → h'[b]? = h[b]?) (ha : a ∈ TXQ) : ∀ q ∈ TXQ, q ≠ a → txC h' q = txC h q := fun q hq hne => by
  have g := TXQ_2 q hq a ha hne
  exact txC_c (e _ hne g.1) (e _ g.2.1 g.2.2)
theorem tqN_m {u : Int} (h : 0 ≤ u ∧ u ≤ 1 ∨ 10 ≤ u ∧ u ≤ 18) : tqN u ∈ TXQ := by
  rcases (show u = 0 ∨ u = 1 ∨ u = 10 ∨ u = 11 ∨ u = 12 ∨ u = 13 ∨ u = 14 ∨ u = 15 ∨ u = 16 ∨ u = 17 ∨ u = 18 by omega) with q | q | q | q | q | q | q | q | q | q | q <;> rw [q] <;> decide
def BY (h : aH) : Prop := ∀ p, 0 ≤ p → p < fO h 5 1 → 0 ≤ gI h 6 p ∧ gI h 6 p ≤ 255
theorem BY.t {h : aH} {t : Int → Int} {p : Int} (b : BY h) (e : tC h = t) (h0 : 0 ≤ p) (h1 : p < fO h 5 1) : t p ≠ -1 := by
  rw [← e]
  unfold tC
  rw [if_pos ⟨h0, h1⟩]
  have := b p h0 h1
  omega
theorem THt.cast {t : Int → Int} {u u2 : List Int} {f p f2 p2 : Int} (h : THt t u f p) (ef : f2 = f) (ep : p2 = p) (eu : u2 = u) : THt t u2 f2 p2 := by
  subst ef ep eu
  exact h
theorem TLt.cast {t : Int → Int} {u u2 : List Int} {p p2 : Int} (h : TLt t u p) (ep : p2 = p) (eu : u2 = u) : TLt t u2 p2 := by
  subst ep eu
  exact h
theorem tkE {u u' u1 : List Int} {x y : Int} (e : u' = u ++ [x]) (hx : x = y) (hu : u = u1) : u' = u1 ++ [y] := by
  subst hx hu
  exact e
/-- what a text call answers and leaves of the class -/
def CTt (t : Int → Int) (h' : aH) (a : Nat) (x : Int) : Prop := (x = -1 ∧ ∃ ls, Txd t ls ∧ txC h' a = cfl 0 ls) ∨ (0 ≤ x ∧ Txf t x)
theorem TRt.c {t : Int → Int} {u : List Int} {x : Int} {h' : aH} {a : Nat} (h : TRt t u x) (k : x = -1 → txC h' a = u) : CTt t h' a x := by
  rcases h with ⟨e, ls, a, b⟩ | h
  · exact Or.inl ⟨e, ls, a, (k e).trans b⟩
  · exact Or.inr h
def CXt (t : Int → Int) (h' : aH) (a : Nat) (x : Int) : Prop := (x = 1 ∧ ∃ ls, Txd t ls ∧ txC h' a = cfl 0 ls) ∨ ∃ f, 0 ≤ f ∧ x = -100 - f ∧ Txf t f
theorem CTt.x {t : Int → Int} {h h' : aH} {a a' : Nat} {f x : Int} (g : CTt t h a f) (ea : a' = a) (k : f = -1 → txC h' a = txC h a) (hx : (f = -1 ∧ x = 1) ∨ (f ≠ -1 ∧ x = -100 - f)) : CXt t h' a' x := by
  subst ea
  rcases g with ⟨e, ls, b, c⟩ | ⟨e, b⟩
  · exact Or.inl ⟨by omega, ls, b, (k e).trans c⟩
  · exact Or.inr ⟨f, e, by omega, b⟩
theorem CTt.r {t : Int → Int} {h : aH} {a : Nat} {x : Int} (g : CTt t h a x) : x = -1 ∨ 0 ≤ x := by
  rcases g with ⟨e, -⟩ | ⟨e, -⟩
  · exact Or.inl e
  · exact Or.inr e
section TXR
variable {d pc n kc ks : Nat} {T : aTab} {Q : Option aV → aH → Prop} {al : aL} {st : List aV} {h : aH}
theorem ur_txE {j : Int32} (ho : aAt T pc = some (.inl (oAldA n 6))) (hO : OK h) (hj : 0 ≤ j.toInt ∧ j.toInt < 9) (k : ∀ z, z < 114 ∧ tg h z = (109, 2) → z = 23 + 2 * j.toInt.toNat → uRun T (uCall Mt d) Q n (al, .inr (.inr (some z)) :: st, h, kc, ks)) : uRun T (uCall Mt d) Q pc (al, .inl j :: .inr (.inr (some 19)) :: st, h, kc, ks) := by
  obtain ⟨x, h1, -, h2⟩ := hO.arr (hO.fix 19 (by decide) rfl) (by decide)
  have h2 : x = .inr (.inr [some 23, some 25, some 27, some 29, some 31, some 33, some 35, some 37, some 39]) := h2
  subst h2
  have hz : ([some 23, some 25, some 27, some 29, some 31, some 33, some 35, some 37, some 39] : List (Option Nat))[j.toNatClampNeg]? = some (some (23 + 2 * j.toInt.toNat)) ∧ T0.getD (23 + 2 * j.toInt.toNat) (999, 0) = (109, 2) := by
    have e : j.toNatClampNeg = j.toInt.toNat := rfl
    rw [e]
    rcases (show j.toInt = 0 ∨ j.toInt = 1 ∨ j.toInt = 2 ∨ j.toInt = 3 ∨ j.toInt = 4 ∨ j.toInt = 5 ∨ j.toInt = 6 ∨ j.toInt = 7 ∨ j.toInt = 8 by omega) with q | q | q | q | q | q | q | q | q <;> rw [q] <;> exact ⟨rfl, rfl⟩
  obtain ⟨h3, h5⟩ := hz
  exact ur_aldA ho h1 (pos_ix hj.1) h3 (k _ ⟨by omega, hO.fix _ (by omega) h5⟩ rfl)
theorem ur_cpIE {W : List Nat} {m dp sp : Int32} {a1 a0 n0 n1 : Nat} {xs ys : List Int32} (ho : aAt T pc = some (.inl (oCpI n))) (hO : OK h) (ha0 : h[a0]? = some (.inr (0, .inl xs))) (ha1 : h[a1]? = some (.inr (0, .inl ys))) (hn0 : xs.length = n0) (hn1 : ys.length = n1) (b1 : 0 ≤ sp.toInt ∧ 0 ≤ dp.toInt ∧ 0 ≤ m.toInt ∧ sp.toInt + m.toInt ≤ (n0 : Int) ∧ dp.toInt + m.toInt ≤ (n1 : Int)) (b6 : st.length ≤ 4) (hr : rng a1 = (-2147483648, 2147483647)) (hw : scA a1 = true ∨ (0, n1) ∈ meM ∨ wid a1 (0, n1) ∈ W) (k : ∀ h', OK h' → un W h h' → (∀ b, b ≠ a1 → h'[b]? = h[b]?) → h'[a1]? = some (.inr (0, .inl (cpL 0 xs ys sp.toInt.toNat dp.toInt.toNat m.toInt.toNat))) → uRun T (uCall Mt d) Q n (al, st, h', kc, ks)) (hz : n1 ≠ 10 := by decide) : uRun T (uCall Mt d) Q pc (al, .inl m :: .inl dp :: .inr (.inr (some a1)) :: .inl sp :: .inr (.inr (some a0)) :: st, h, kc, ks) := by
  refine ur_cpI ho ha0 ha1 b1.1 b1.2.1 b1.2.2.1 (by omega) (by omega) b6 (k _ (hO.set ha1 (by simp [tgC, aLen, cpL_len]) ⟨_, rfl, fun i y _ => any_w hr y, nmZ.z (zI_of hO ha1 hn1 (Or.inl hz))⟩) (un.ars ha1 (by simp [aLen, cpL_len]) ?_) set_ne (hs_eq ha1))
  show scA a1 = true ∨ (0, ys.length) ∈ meM ∨ wid a1 (0, ys.length) ∈ W
  rw [hn1]
  exact hw
end TXR
set_option maxRecDepth 20000 in
set_option maxHeartbeats 4000000 in
theorem st_X9_takeSteps {d kc ks : Nat} {h0 : aH} {Q : Option aV → aH → Prop} (hO0 : OK h0) {a0 : Nat} (t0 : tg h0 a0 = (109, 2)) {a1 : Nat} (t1 : tg h0 a1 = (0, 128)) (a2 : Int32) (b2 : 0 ≤ a2.toInt ∧ a2.toInt ≤ 128) (hQ : ∀ r h', (r = none) → OK h' → un [10, 12, 24, 26, 28, 30, 32, 34, 36, 38, 40, 1901, 2101, 3301, 3501, 3701, 3901, 4101, 4301, 4501, 4701, 4901] h0 h' → (txC h' a0 = ((arI h0 a1).take a2.toInt.toNat).map Int32.toInt ∧ ∀ b, b ≠ a0 → b ≠ a0 + 1 → h'[b]? = h0[b]?) → Q r h') : uCall Mt (d + 1) 110 [(.inr (.inr (some a0))), (.inr (.inr (some a1))), (.inl a2)] h0 kc ks Q := by
  have l_0 : ((0) : Int32).toInt = 0 := by decide
  have l_128 : ((128) : Int32).toInt = 128 := by decide
  refine uc_ink [some (.inr (.inr (some a0))), some (.inr (.inr (some a1))), some (.inl a2)] mt_110 (Nat.le_of_ble_eq_true rfl) rfl ?_
  obtain ⟨g5, f2, hc1, k3, k4⟩ := hO0.text t0
  have t6 := fO_of (k := 1) hc1 rfl
  refine ur_ldA rfl rfl ?_
  refine ur_ldI rfl rfl ?_
  refine ur_ldA rfl rfl ?_
  obtain ⟨xs8, hc7, hn9, he10⟩ := hO0.int t1
  refine ur_lenV (m := 128) rfl hc7 hn9 (by decide) (fun x11 t12 => ?_)
  refine ur_push rfl ?_
  refine ur_minV rfl (by show ¬ 9 ≤ 4; decide) (fun x13 t14 e15 => ?_)
  refine ur_minV rfl (by show ¬ 9 ≤ 3; decide) (fun x16 t17 e18 => ?_)
  refine ur_putV (W := [10, 12, 24, 26, 28, 30, 32, 34, 36, 38, 40, 1901, 2101, 3301, 3501, 3701, 3901, 4101, 4301, 4501, 4701, 4901]) (fs' := [(.inr (.inr (some (a0 + 1)))), (.inl x16)]) rfl hO0 hc1 (Nat.le_of_ble_eq_true rfl) rfl rfl ⟨g5, _, rfl, k3, by omega⟩ rfl (Or.inr (wid_tx hO0 g5 t0 (by decide))) (fun h20 hO20 hu20 d19 hc21 => ?_)
  refine ur_ldA rfl rfl ?_
  refine ur_push rfl ?_
  refine ur_ldA rfl rfl ?_
  refine ur_get rfl hc21 rfl ?_
  have t22 := fO_of (k := 1) hc21 rfl
  refine ur_push rfl ?_
  refine ur_ldA rfl rfl ?_
  refine ur_get rfl hc21 rfl ?_
  obtain ⟨xs24, hc23, hn25, he26⟩ := hO20.int (hu20.tm k3 (by decide))
  refine ur_cpIE (W := [10, 12, 24, 26, 28, 30, 32, 34, 36, 38, 40, 1901, 2101, 3301, 3501, 3701, 3901, 4101, 4301, 4501, 4701, 4901]) rfl hO20 ((d19 _ (ne_tg (hu20.tm t1 (by decide)) (hu20.tm t0 (by decide)) (by decide))).trans hc7) hc23 hn9 hn25 (by omega) (Nat.le_of_ble_eq_true rfl) (rng_tx hO20 g5 (hu20.tm t0 (by decide))) (Or.inr (Or.inr (wid_tx1 hO20 g5 (hu20.tm t0 (by decide)) (by decide)))) (fun h28 hO28 hu28 d27 hc29 => ?_)
  have w30 : wI h20 h28 (a0 + 1) (cpL 0 (arI h20 a1) (arI h20 (a0 + 1)) (0 : Int32).toInt.toNat (0 : Int32).toInt.toNat x16.toInt.toNat) := ⟨by rw [arI_of hc29, arI_of ((d19 _ (ne_tg (hu20.tm t1 (by decide)) (hu20.tm t0 (by decide)) (by decide))).trans hc7), arI_of hc23], d27⟩
  have t31 := fO_of (k := 1) ((d27 _ (ne_tg (hu28.tm (hu20.tm t0 (by decide)) (by decide)) (hu28.tm (hu20.tm k3 (by decide)) (by decide)) (by decide))).trans hc21) rfl
  exact ur_ret0 rfl (hQ _ _ rfl hO28 (hu20.tr hu28) ⟨txC_tk d19 w30 l_0 l_0 (ne_tg t1 t0 (by decide)) (ln_of ((d19 _ (ne_tg (hu20.tm t1 (by decide)) (hu20.tm t0 (by decide)) (by decide))).trans hc7) hn9) (ln_of hc23 hn25) (by omega) (by omega) b2, fun b h1 h2 => (w30.2 b h2).trans (d19 b h1)⟩)

set_option maxRecDepth 20000 in
set_option maxHeartbeats 4000000 in
theorem st_X8_readLine {d kc ks : Nat} {h0 : aH} {Q : Option aV → aH → Prop} {t : Int → Int} (hO0 : OK h0)  (pre0 : tC h0 = t) (pre1 : 0 ≤ fO h0 5 2 ∧ fO h0 5 2 ≤ fO h0 5 1 ∧ fO h0 5 1 ≤ 120 ∧ fO h0 5 3 = -1 ∧ 0 ≤ fO h0 5 5 ∧ fO h0 5 5 ≤ fO h0 5 2) (pre2 : TLt t (tkC h0) (fO h0 5 2)) (hQ : ∀ r h', (r = none) → OK h' → un [] h0 h' → (0 ≤ fO h' 5 5 ∧ fO h' 5 5 ≤ fO h' 5 2 + 1 ∧ fO h0 5 2 ≤ fO h' 5 2 ∧ fO h' 5 2 ≤ fO h' 5 1 ∧ fO h' 5 1 = fO h0 5 1 ∧ fO h' 5 3 ≤ fO h' 5 1) → (THt t (tkC h') (fO h' 5 3) (fO h' 5 2)) → Q r h') : uCall Mt (d + 46) 100 [(.inr (.inr (some 5)))] h0 kc ks Q := by
  have l_0 : ((0) : Int32).toInt = 0 := by decide
  have l_14 : ((14) : Int32).toInt = 14 := by decide
  have l_15 : ((15) : Int32).toInt = 15 := by decide
  have l_63 : ((63) : Int32).toInt = 63 := by decide
  refine uc_ink [some (.inr (.inr (some 5))), none] mt_100 (Nat.le_of_ble_eq_true rfl) rfl ?_
  obtain ⟨f2, f3, f4, f5, hc1, k6⟩ := ok_5 hO0
  have t7 := fO_of (k := 1) hc1 rfl
  have t8 := fO_of (k := 2) hc1 rfl
  have t9 := fO_of (k := 3) hc1 rfl
  have t10 := fO_of (k := 5) hc1 rfl
  refine ur_ldA rfl rfl ?_
  refine ur_push rfl ?_
  refine ur_inl rfl (rcv_of hc1) (Nat.le_of_ble_eq_true rfl) (Nat.le_of_ble_eq_true rfl) (st_X8_rE hO0 _ (by show 0 ≤ (0 : Int32).toInt ∧ (0 : Int32).toInt ≤ 6; omega) pre0 (by omega) (fun w11 h15 hr12 hO15 hv15 hp13 hp14 => ?_))
  have hu15 := hv15
  subst hr12
  show uRun _ (uCall Mt _) _ 5 (_, [], _, _, _)
  refine ur_ldA rfl rfl ?_
  refine ur_push rfl ?_
  obtain ⟨f17, f18, f19, f20, hc16, k21⟩ := ok_5 hO15
  have t22 := fO_of (k := 1) hc16 rfl
  have t23 := fO_of (k := 2) hc16 rfl
  have t24 := fO_of (k := 3) hc16 rfl
  have t25 := fO_of (k := 5) hc16 rfl
  refine ur_inl rfl (rcv_of hc16) (Nat.le_of_ble_eq_true rfl) (Nat.le_of_ble_eq_true rfl) (st_X8_isGoingOn hO15 _ (by show 33 ≤ (63 : Int32).toInt ∧ (63 : Int32).toInt ≤ 124; omega) (tC_un hO0 hO15 hv15 (by decide) (by decide) pre0) (by omega) (fun w26 h30 hr27 hO30 hv30 hp28 hp29 => ?_))
  have hu30 := hv30
  obtain ⟨b31, rfl, t32, t33⟩ := hr27
  show uRun _ (uCall Mt _) _ 11 (_, [(.inl (bi b31))], _, _, _)
  refine ur_neB rfl (fun c34 => ?_) (fun c34 => ?_)
  · have t35 := t32 c34
    clear t32 t33
    refine ur_ldA rfl rfl ?_
    obtain ⟨f37, f38, f39, f40, hc36, k41⟩ := ok_5 hO30
    refine ur_get rfl hc36 rfl ?_
    have t42 := fO_of (k := 1) hc36 rfl
    have t43 := fO_of (k := 2) hc36 rfl
    have t44 := fO_of (k := 3) hc36 rfl
    have t45 := fO_of (k := 5) hc36 rfl
    refine ur_svIk [some (.inr (.inr (some 5))), some (.inl f40)] rfl rfl ?_
    refine ur_ldA rfl rfl ?_
    refine ur_push rfl ?_
    refine ur_push rfl ?_
    refine ur_inl rfl (rcv_of hc36) (Nat.le_of_ble_eq_true rfl) (Nat.le_of_ble_eq_true rfl) (st_X8_add hO30 _ (by show 0 ≤ (14 : Int32).toInt ∧ (14 : Int32).toInt ≤ 15; omega) _ (by show 0 ≤ (0 : Int32).toInt ∧ (0 : Int32).toInt ≤ 999999; omega) (by omega) (fun w46 h50 hr47 hO50 hv50 hp48 hp49 => ?_))
    have hu50 := hv50
    subst hr47
    show uRun _ (uCall Mt _) _ 34 (_, [], _, _, _)
    refine ur_ldA rfl rfl ?_
    refine ur_push rfl ?_
    obtain ⟨f52, f53, f54, f55, hc51, k56⟩ := ok_5 hO50
    have t57 := fO_of (k := 1) hc51 rfl
    have t58 := fO_of (k := 2) hc51 rfl
    have t59 := fO_of (k := 3) hc51 rfl
    have t60 := fO_of (k := 5) hc51 rfl
    refine ur_inl rfl (rcv_of hc51) (Nat.le_of_ble_eq_true rfl) (Nat.le_of_ble_eq_true rfl) (st_X8_rE hO50 _ (by show 0 ≤ (0 : Int32).toInt ∧ (0 : Int32).toInt ≤ 6; omega) (tC_un hO30 hO50 hv50 (by decide) (by decide) (tC_un hO15 hO30 hv30 (by decide) (by decide) (tC_un hO0 hO15 hv15 (by decide) (by decide) pre0))) (by omega) (fun w61 h65 hr62 hO65 hv65 hp63 hp64 => ?_))
    have hu65 := hv65
    subst hr62
    show uRun _ (uCall Mt _) _ 39 (_, [], _, _, _)
    refine ur_ldA rfl rfl ?_
    refine ur_push rfl ?_
    refine ur_push rfl ?_
    obtain ⟨f67, f68, f69, f70, hc66, k71⟩ := ok_5 hO65
    have t72 := fO_of (k := 1) hc66 rfl
    have t73 := fO_of (k := 2) hc66 rfl
    have t74 := fO_of (k := 3) hc66 rfl
    have t75 := fO_of (k := 5) hc66 rfl
    refine ur_inl rfl (rcv_of hc66) (Nat.le_of_ble_eq_true rfl) (Nat.le_of_ble_eq_true rfl) (st_X8_add hO65 _ (by show 0 ≤ (15 : Int32).toInt ∧ (15 : Int32).toInt ≤ 15; omega) _ (by show 0 ≤ (0 : Int32).toInt ∧ (0 : Int32).toInt ≤ 999999; omega) (by omega) (fun w76 h80 hr77 hO80 hv80 hp78 hp79 => ?_))
    have hu80 := hv80
    subst hr77
    show uRun _ (uCall Mt _) _ 46 (_, [], _, _, _)
    refine ur_ldI rfl rfl ?_
    refine ur_ldA rfl rfl ?_
    obtain ⟨f82, f83, f84, f85, hc81, k86⟩ := ok_5 hO80
    refine ur_get rfl hc81 rfl ?_
    have t87 := fO_of (k := 1) hc81 rfl
    have t88 := fO_of (k := 2) hc81 rfl
    have t89 := fO_of (k := 3) hc81 rfl
    have t90 := fO_of (k := 5) hc81 rfl
    obtain ⟨xs92, hc91, hn93, he94⟩ := hO80.int (hO80.fix 7 (by decide) rfl)
    refine ur_lenV (m := 128) rfl hc91 hn93 (by decide) (fun x95 t96 => ?_)
    have z97 := any_r f40
    have z98 := any_r x95
    refine ur_if2 rfl (fun c99 => ?_) (fun c99 => ?_)
    · have t100 := le_to c99
      exfalso
      omega
    · have t101 := le_no c99
      refine ur_ldA rfl rfl ?_
      refine ur_get rfl hc81 rfl ?_
      refine ur_ldI rfl rfl ?_
      refine ur_push rfl ?_
      refine ur_ldA rfl rfl ?_
      refine ur_get rfl hc81 rfl ?_
      refine ur_inl rfl rfl (Nat.le_of_ble_eq_true rfl) (Nat.le_of_ble_eq_true rfl) (st_X9_step _ (by show 0 ≤ (14 : Int32).toInt ∧ (14 : Int32).toInt ≤ 15; omega) _ (by show 0 ≤ f85.toInt ∧ f85.toInt ≤ 999999; omega) (fun w102 hr103 => ?_))
      obtain ⟨x104, rfl, f105⟩ := hr103
      show uRun _ (uCall Mt _) _ 69 (_, [(.inl x104), (.inl f40), (.inr (.inr (some 7)))], _, _, _)
      refine ur_astV (W := []) (m := 128) rfl hO80 hc91 (by decide) hn93 (by omega) (any_r _) (Or.inl rfl) (fun h108 hO108 hu108 d106 hc107 => ?_)
      have w109 : wI h80 h108 7 ((arI h80 7).set (f40 : Int32).toInt.toNat x104) := ⟨by rw [arI_of hc107, arI_of hc91], d106⟩
      have t110 := fO_of (k := 1) ((d106 _ (by decide)).trans hc81) rfl
      have t111 := fO_of (k := 2) ((d106 _ (by decide)).trans hc81) rfl
      have t112 := fO_of (k := 3) ((d106 _ (by decide)).trans hc81) rfl
      have t113 := fO_of (k := 5) ((d106 _ (by decide)).trans hc81) rfl
      have t114 : t (fO h15 5 2) = t (fO h15 5 2) := congrArg t (by omega)
      exact ur_ret0 rfl (hQ _ _ rfl hO108 (hu15.tr (hu30.tr (hu50.tr (hu65.tr (hu80.tr hu108))))) (by omega) (THt.cast (TLt.tb pre2 hp14 (by omega) rfl rfl (by omega) (by omega) hp64 (by omega) (by omega) (tkE hp49 (by decide) hp29) (tkE hp79 (by decide) rfl) (by rw [tkC_len hO15 (by omega)]; omega) (by rw [tkC_len hO80 (by omega)]; omega) (tkC_set w109 rfl f105)) (by omega) (by omega) rfl))
  · have t115 := t33 c34
    clear t32 t33
    refine ur_ldA rfl rfl ?_
    refine ur_push rfl ?_
    refine ur_push rfl ?_
    obtain ⟨f117, f118, f119, f120, hc116, k121⟩ := ok_5 hO30
    have t122 := fO_of (k := 1) hc116 rfl
    have t123 := fO_of (k := 2) hc116 rfl
    have t124 := fO_of (k := 3) hc116 rfl
    have t125 := fO_of (k := 5) hc116 rfl
    refine ur_inl rfl (rcv_of hc116) (Nat.le_of_ble_eq_true rfl) (Nat.le_of_ble_eq_true rfl) (st_X8_add hO30 _ (by show 0 ≤ (15 : Int32).toInt ∧ (15 : Int32).toInt ≤ 15; omega) _ (by show 0 ≤ (0 : Int32).toInt ∧ (0 : Int32).toInt ≤ 999999; omega) (by omega) (fun w126 h130 hr127 hO130 hv130 hp128 hp129 => ?_))
    have hu130 := hv130
    subst hr127
    show uRun _ (uCall Mt _) _ 21 (_, [], _, _, _)
    obtain ⟨f132, f133, f134, f135, hc131, k136⟩ := ok_5 hO130
    have t137 := fO_of (k := 1) hc131 rfl
    have t138 := fO_of (k := 2) hc131 rfl
    have t139 := fO_of (k := 3) hc131 rfl
    have t140 := fO_of (k := 5) hc131 rfl
    have t141 : t (fO h15 5 2) = t (fO h15 5 2) := congrArg t (by omega)
    exact ur_ret0 rfl (hQ _ _ rfl hO130 (hu15.tr (hu30.tr hu130)) (by omega) (THt.cast (TLt.no pre2 hp14 (by omega) rfl rfl (fun q => by omega) (tkE hp129 (by decide) hp29)) (by omega) (by omega) rfl))

set_option maxRecDepth 20000 in
set_option maxHeartbeats 4000000 in
theorem st_X8_becomeText {d kc ks : Nat} {h0 : aH} {Q : Option aV → aH → Prop} {t : Int → Int} (hO0 : OK h0) {a1 : Nat} (t1 : tg h0 a1 = (109, 2)) (pre0 : tC h0 = t) (pre1 : BY h0) (pre2 : a1 ∈ TXQ) (hQ : ∀ r h', (∃ x : Int32, r = some (.inl x) ∧ ((CTt t h' a1 x.toInt ∧ x.toInt ≤ 120) ∧ ∀ q ∈ TXQ, (q ≠ a1 ∨ x.toInt ≠ -1) → txC h' q = txC h0 q)) → OK h' → un [10, 12, 24, 26, 28, 30, 32, 34, 36, 38, 40, 1501, 1901, 2101, 3301, 3501, 3701, 3901, 4101, 4301, 4501, 4701, 4901] h0 h' → (fO h' 5 1 = 0) → Q r h') : uCall Mt (d + 47) 94 [(.inr (.inr (some 5))), (.inr (.inr (some a1)))] h0 kc ks Q := by
  have l_m1 : ((-1) : Int32).toInt = -1 := by decide
  have l_0 : ((0) : Int32).toInt = 0 := by decide
  have l_1 : ((1) : Int32).toInt = 1 := by decide
  have l_59 : ((59) : Int32).toInt = 59 := by decide
  refine uc_ink [some (.inr (.inr (some 5))), some (.inr (.inr (some a1))), none] mt_94 (Nat.le_of_ble_eq_true rfl) rfl ?_
  obtain ⟨f2, f3, f4, f5, hc1, k6⟩ := ok_5 hO0
  have t7 := fO_of (k := 1) hc1 rfl
  have t8 := fO_of (k := 2) hc1 rfl
  have t9 := fO_of (k := 3) hc1 rfl
  have t10 := fO_of (k := 5) hc1 rfl
  refine ur_ldA rfl rfl ?_
  refine ur_push rfl ?_
  refine ur_putV (W := []) (fs' := [(.inr (.inr (some 6))), (.inl f2), (.inl 0), (.inl f4), (.inr (.inr (some 7))), (.inl f5)]) rfl hO0 hc1 (Nat.le_of_ble_eq_true rfl) rfl rfl ⟨rfl, _, _, _, _, rfl, by omega⟩ rfl (Or.inl rfl) (fun h12 hO12 hv12 d11 hc13 => ?_)
  have hu12 : un [10, 12, 24, 26, 28, 30, 32, 34, 36, 38, 40, 1501, 1901, 2101, 3301, 3501, 3701, 3901, 4101, 4301, 4501, 4701, 4901] h0 h12 := hv12.mono (by decide)
  refine ur_ldA rfl rfl ?_
  refine ur_push rfl ?_
  have t14 := fO_of (k := 1) hc13 rfl
  have t15 := fO_of (k := 2) hc13 rfl
  have t16 := fO_of (k := 3) hc13 rfl
  have t17 := fO_of (k := 5) hc13 rfl
  refine ur_putV (W := []) (fs' := [(.inr (.inr (some 6))), (.inl f2), (.inl 0), (.inl f4), (.inr (.inr (some 7))), (.inl 0)]) rfl hO12 hc13 (Nat.le_of_ble_eq_true rfl) rfl rfl ⟨rfl, _, _, _, _, rfl, by omega⟩ rfl (Or.inl rfl) (fun h19 hO19 hv19 d18 hc20 => ?_)
  have hu19 : un [10, 12, 24, 26, 28, 30, 32, 34, 36, 38, 40, 1501, 1901, 2101, 3301, 3501, 3701, 3901, 4101, 4301, 4501, 4701, 4901] h12 h19 := hv19.mono (by decide)
  refine ur_ldA rfl rfl ?_
  refine ur_push rfl ?_
  have t21 := fO_of (k := 1) hc20 rfl
  have t22 := fO_of (k := 2) hc20 rfl
  have t23 := fO_of (k := 3) hc20 rfl
  have t24 := fO_of (k := 5) hc20 rfl
  refine ur_putV (W := []) (fs' := [(.inr (.inr (some 6))), (.inl f2), (.inl 0), (.inl (-1)), (.inr (.inr (some 7))), (.inl 0)]) rfl hO19 hc20 (Nat.le_of_ble_eq_true rfl) rfl rfl ⟨rfl, _, _, _, _, rfl, by omega⟩ rfl (Or.inl rfl) (fun h26 hO26 hv26 d25 hc27 => ?_)
  have hu26 : un [10, 12, 24, 26, 28, 30, 32, 34, 36, 38, 40, 1501, 1901, 2101, 3301, 3501, 3701, 3901, 4101, 4301, 4501, 4701, 4901] h19 h26 := hv26.mono (by decide)
  have t28 := fO_of (k := 1) hc27 rfl
  have t29 := fO_of (k := 2) hc27 rfl
  have t30 := fO_of (k := 3) hc27 rfl
  have t31 := fO_of (k := 5) hc27 rfl
  refine ur_ldA rfl rfl ?_
  refine ur_inl rfl (rcv_of hc27) (Nat.le_of_ble_eq_true rfl) (Nat.le_of_ble_eq_true rfl) (st_X8_readLine hO26 (tC_un hO19 hO26 hv26 (by decide) (by decide) (tC_un hO12 hO19 hv19 (by decide) (by decide) (tC_un hO0 hO12 hv12 (by decide) (by decide) pre0))) (by omega) (TLt.z (by omega) (tkC_nil (by omega))) (fun w32 h36 hr33 hO36 hv36 hp34 hp35 => ?_))
  have hu36 : un [10, 12, 24, 26, 28, 30, 32, 34, 36, 38, 40, 1501, 1901, 2101, 3301, 3501, 3701, 3901, 4101, 4301, 4501, 4701, 4901] h26 h36 := hv36.mono (by decide)
  subst hr33
  show uRun _ (uCall Mt _) _ 19 (_, [], _, _, _)
  refine ur_push rfl ?_
  refine ur_svIk [some (.inr (.inr (some 5))), some (.inr (.inr (some a1))), some (.inl 0)] rfl rfl ?_
  obtain ⟨f42, f43, f44, f45, hc41, k46⟩ := ok_5 hO36
  have t47 := fO_of (k := 1) hc41 rfl
  have t48 := fO_of (k := 2) hc41 rfl
  have t49 := fO_of (k := 3) hc41 rfl
  have t50 := fO_of (k := 5) hc41 rfl
  have L38 : ∀ (m39 : Nat) (x37 : Int32) (h51 : aH) , OK h51 → un [10, 12, 24, 26, 28, 30, 32, 34, 36, 38, 40, 1501, 1901, 2101, 3301, 3501, 3701, 3901, 4101, 4301, 4501, 4701, 4901] h36 h51 → ((0 ≤ x37.toInt ∧ x37.toInt ≤ 120) ∧ x37.toInt ≤ fO h51 5 2 ∧ 0 ≤ fO h51 5 5 ∧ fO h51 5 5 ≤ fO h51 5 2 + 1 ∧ 0 ≤ fO h51 5 2 ∧ fO h51 5 2 ≤ fO h51 5 1 ∧ fO h51 5 1 = fO h0 5 1 ∧ fO h51 5 3 ≤ fO h51 5 1) → (tC h51 = t) → (THt t (tkC h51) (fO h51 5 3) (fO h51 5 2)) → (∀ q ∈ TXQ, txC h51 q = txC h0 q) → ((121 - x37.toInt).toNat) < m39 → uRun oX8_becomeText (uCall Mt (d + 46)) Q 21 ([some (.inr (.inr (some 5))), some (.inr (.inr (some a1))), some (.inl x37)], [], h51, kc, ks) := by
    intro m39
    induction m39 with
    | zero => intro x37 h51 hO51 hu51 iv55 px52 px53 px54 mm56; omega
    | succ m39 ih40 =>
      intro x37 h51 hO51 hu51 iv55 px52 px53 px54 mm56
      obtain ⟨f58, f59, f60, f61, hc57, k62⟩ := ok_5 hO51
      have t63 := fO_of (k := 1) hc57 rfl
      have t64 := fO_of (k := 2) hc57 rfl
      have t65 := fO_of (k := 3) hc57 rfl
      have t66 := fO_of (k := 5) hc57 rfl
      refine ur_ldI rfl rfl ?_
      refine ur_ldA rfl rfl ?_
      refine ur_get rfl hc57 rfl ?_
      have z67 := any_r x37
      have z68 := any_r f58
      refine ur_if2 rfl (fun c69 => ?_) (fun c69 => ?_)
      · have t70 := le_to c69
        have t71 := tC_out (q := fO h51 5 2) px52 (by omega)
        refine ur_ldA rfl rfl ?_
        refine ur_get rfl hc57 rfl ?_
        refine ur_push rfl ?_
        refine ur_if2 rfl (fun c72 => ?_) (fun c72 => ?_)
        · have t73 := ne_to c72
          refine ur_ldA rfl rfl ?_
          refine ur_get rfl hc57 rfl ?_
          refine ur_push rfl ?_
          refine ur_if2 rfl (fun c74 => ?_) (fun c74 => ?_)
          · have t75 := ne_to c74
            refine ur_ldA rfl rfl ?_
            refine ur_push rfl ?_
            refine ur_putV (W := [1501]) (fs' := [(.inr (.inr (some 6))), (.inl 0), (.inl f59), (.inl f60), (.inr (.inr (some 7))), (.inl f61)]) rfl hO51 hc57 (Nat.le_of_ble_eq_true rfl) rfl rfl ⟨rfl, _, _, _, _, rfl, by omega⟩ rfl (Or.inr (by show 1000 + 100 * wid 5 (108, 6) + 1 ∈ _; rw [(wid_f (by decide))]; decide)) (fun h77 hO77 hv77 d76 hc78 => ?_)
            have hu77 : un [10, 12, 24, 26, 28, 30, 32, 34, 36, 38, 40, 1501, 1901, 2101, 3301, 3501, 3701, 3901, 4101, 4301, 4501, 4701, 4901] h51 h77 := hv77.mono (by decide)
            refine ur_ldA rfl rfl ?_
            refine ur_get rfl hc78 rfl ?_
            have t79 := fO_of (k := 1) hc78 rfl
            have t80 := fO_of (k := 2) hc78 rfl
            have t81 := fO_of (k := 3) hc78 rfl
            have t82 := fO_of (k := 5) hc78 rfl
            exact ur_ret rfl rfl (hQ _ _ ⟨_, rfl, ⟨⟨TRt.c (THt.end (n := fO h51 5 1) (x := f60.toInt) (THt.cast px53 (f2 := fO h51 5 3) (p2 := fO h51 5 2) (by omega) (by omega) rfl) (fun q => by omega) (fun q => BY.t pre1 pre0 (by omega) (by omega)) (fun q => tC_out px52 (Or.inr q)) (by omega) (by omega)) (fun q => by exfalso; omega), by omega⟩, fun q hq _ => (fun q hq => ((txC_5 d76) q hq).trans (px54 q hq)) q hq⟩⟩ hO77 (hu12.tr (hu19.tr (hu26.tr (hu36.tr (hu51.tr hu77))))) (by omega))
          · have t83 := ne_no c74
            exfalso
            omega
        · have t84 := ne_no c72
          refine ur_ldA rfl rfl ?_
          refine ur_get rfl hc57 rfl ?_
          refine ur_ldA rfl rfl ?_
          refine ur_get rfl hc57 rfl ?_
          have z85 := any_r f59
          refine ur_if2 rfl (fun c86 => ?_) (fun c86 => ?_)
          · have t87 := le_to c86
            refine ur_ldA rfl rfl ?_
            refine ur_get rfl hc57 rfl ?_
            refine ur_push rfl ?_
            refine ur_if2 rfl (fun c88 => ?_) (fun c88 => ?_)
            · have t89 := ne_to c88
              exfalso
              omega
            · have t90 := ne_no c88
              refine ur_ldA rfl rfl ?_
              refine ur_ldA rfl rfl ?_
              refine ur_get rfl hc57 rfl ?_
              refine ur_ldA rfl rfl ?_
              refine ur_get rfl hc57 rfl ?_
              obtain ⟨g95, f92, hc91, k93, k94⟩ := hO51.text (hu51.tm (hu36.tm (hu26.tm (hu19.tm (hu12.tm t1 (by decide)) (by decide)) (by decide)) (by decide)) (by decide))
              refine ur_inl rfl (rcv_of hc91) (Nat.le_of_ble_eq_true rfl) (Nat.le_of_ble_eq_true rfl) (st_X9_takeSteps hO51 (hu51.tm (hu36.tm (hu26.tm (hu19.tm (hu12.tm t1 (by decide)) (by decide)) (by decide)) (by decide)) (by decide)) (hO51.fix 7 (by decide) rfl) _ (by show 0 ≤ f61.toInt ∧ f61.toInt ≤ 128; omega) (fun w96 h99 hr97 hO99 hv99 hp98 => ?_))
              have hu99 : un [10, 12, 24, 26, 28, 30, 32, 34, 36, 38, 40, 1501, 1901, 2101, 3301, 3501, 3701, 3901, 4101, 4301, 4501, 4701, 4901] h51 h99 := hv99.mono (by decide)
              subst hr97
              show uRun _ (uCall Mt _) _ 95 (_, [], _, _, _)
              obtain ⟨f101, f102, f103, f104, hc100, k105⟩ := ok_5 hO99
              have t106 := fO_of (k := 1) hc100 rfl
              have t107 := fO_of (k := 2) hc100 rfl
              have t108 := fO_of (k := 3) hc100 rfl
              have t109 := fO_of (k := 5) hc100 rfl
              have t110 : fO h99 5 3 = fO h51 5 3 := fO_c9 (hp98.2 5 (Ne.symm (TXQ_5 _ pre2).1) (Ne.symm (TXQ_5 _ pre2).2))
              refine ur_ldA rfl rfl ?_
              refine ur_push rfl ?_
              refine ur_putV (W := [1501]) (fs' := [(.inr (.inr (some 6))), (.inl 0), (.inl f102), (.inl f103), (.inr (.inr (some 7))), (.inl f104)]) rfl hO99 hc100 (Nat.le_of_ble_eq_true rfl) rfl rfl ⟨rfl, _, _, _, _, rfl, by omega⟩ rfl (Or.inr (by show 1000 + 100 * wid 5 (108, 6) + 1 ∈ _; rw [(wid_f (by decide))]; decide)) (fun h112 hO112 hv112 d111 hc113 => ?_)
              have hu112 : un [10, 12, 24, 26, 28, 30, 32, 34, 36, 38, 40, 1501, 1901, 2101, 3301, 3501, 3701, 3901, 4101, 4301, 4501, 4701, 4901] h99 h112 := hv112.mono (by decide)
              refine ur_ldA rfl rfl ?_
              refine ur_get rfl hc113 rfl ?_
              have t114 := fO_of (k := 1) hc113 rfl
              have t115 := fO_of (k := 2) hc113 rfl
              have t116 := fO_of (k := 3) hc113 rfl
              have t117 := fO_of (k := 5) hc113 rfl
              exact ur_ret rfl rfl (hQ _ _ ⟨_, rfl, ⟨⟨TRt.c (THt.end (n := fO h51 5 1) (x := f103.toInt) (THt.cast px53 (f2 := fO h51 5 3) (p2 := fO h51 5 2) (by omega) (by omega) rfl) (fun q => by omega) (fun q => BY.t pre1 pre0 (by omega) (by omega)) (fun q => tC_out px52 (Or.inr q)) (by omega) (by omega)) (fun _ => ((txC_5 d111 _ pre2).trans (hp98.1.trans (by unfold tkC; rw [show fO h51 5 5 = f61.toInt by omega])))), by omega⟩, fun q hq hne => ((txC_5 d111 q hq).trans ((txC_oth hp98.2 pre2 q hq (hne.resolve_right (by omega))).trans (px54 q hq)))⟩⟩ hO112 (hu12.tr (hu19.tr (hu26.tr (hu36.tr (hu51.tr (hu99.tr hu112)))))) (by omega))
          · have t118 := le_no c86
            refine ur_ldA rfl rfl ?_
            refine ur_ldA rfl rfl ?_
            refine ur_get rfl hc57 rfl ?_
            refine ur_putV (W := []) (fs' := [(.inr (.inr (some 6))), (.inl f58), (.inl f59), (.inl f59), (.inr (.inr (some 7))), (.inl f61)]) rfl hO51 hc57 (Nat.le_of_ble_eq_true rfl) rfl rfl ⟨rfl, _, _, _, _, rfl, by omega⟩ rfl (Or.inl rfl) (fun h120 hO120 hv120 d119 hc121 => ?_)
            have hu120 : un [10, 12, 24, 26, 28, 30, 32, 34, 36, 38, 40, 1501, 1901, 2101, 3301, 3501, 3701, 3901, 4101, 4301, 4501, 4701, 4901] h51 h120 := hv120.mono (by decide)
            refine ur_ldA rfl rfl ?_
            refine ur_get rfl hc121 rfl ?_
            have t122 := fO_of (k := 1) hc121 rfl
            have t123 := fO_of (k := 2) hc121 rfl
            have t124 := fO_of (k := 3) hc121 rfl
            have t125 := fO_of (k := 5) hc121 rfl
            refine ur_push rfl ?_
            refine ur_if2 rfl (fun c126 => ?_) (fun c126 => ?_)
            · have t127 := ne_to c126
              refine ur_ldA rfl rfl ?_
              refine ur_push rfl ?_
              refine ur_putV (W := [1501]) (fs' := [(.inr (.inr (some 6))), (.inl 0), (.inl f59), (.inl f59), (.inr (.inr (some 7))), (.inl f61)]) rfl hO120 hc121 (Nat.le_of_ble_eq_true rfl) rfl rfl ⟨rfl, _, _, _, _, rfl, by omega⟩ rfl (Or.inr (by show 1000 + 100 * wid 5 (108, 6) + 1 ∈ _; rw [(wid_f (by decide))]; decide)) (fun h129 hO129 hv129 d128 hc130 => ?_)
              have hu129 : un [10, 12, 24, 26, 28, 30, 32, 34, 36, 38, 40, 1501, 1901, 2101, 3301, 3501, 3701, 3901, 4101, 4301, 4501, 4701, 4901] h120 h129 := hv129.mono (by decide)
              refine ur_ldA rfl rfl ?_
              refine ur_get rfl hc130 rfl ?_
              have t131 := fO_of (k := 1) hc130 rfl
              have t132 := fO_of (k := 2) hc130 rfl
              have t133 := fO_of (k := 3) hc130 rfl
              have t134 := fO_of (k := 5) hc130 rfl
              exact ur_ret rfl rfl (hQ _ _ ⟨_, rfl, ⟨⟨TRt.c (THt.end (n := fO h51 5 1) (x := f59.toInt) (THt.cast px53 (f2 := fO h51 5 3) (p2 := fO h51 5 2) (by omega) (by omega) rfl) (fun q => by omega) (fun q => BY.t pre1 pre0 (by omega) (by omega)) (fun q => tC_out px52 (Or.inr q)) (by omega) (by omega)) (fun q => by exfalso; omega), by omega⟩, fun q hq _ => (fun q hq => ((txC_5 d128) q hq).trans ((fun q hq => ((txC_5 d119) q hq).trans (px54 q hq)) q hq)) q hq⟩⟩ hO129 (hu12.tr (hu19.tr (hu26.tr (hu36.tr (hu51.tr (hu120.tr hu129)))))) (by omega))
            · have t135 := ne_no c126
              exfalso
              omega
      · have t136 := le_no c69
        refine ur_ldA rfl rfl ?_
        refine ur_push rfl ?_
        refine ur_inl rfl (rcv_of hc57) (Nat.le_of_ble_eq_true rfl) (Nat.le_of_ble_eq_true rfl) (st_X8_isGoingOn hO51 _ (by show 33 ≤ (59 : Int32).toInt ∧ (59 : Int32).toInt ≤ 124; omega) px52 (by omega) (fun w137 h141 hr138 hO141 hv141 hp139 hp140 => ?_))
        have hu141 : un [10, 12, 24, 26, 28, 30, 32, 34, 36, 38, 40, 1501, 1901, 2101, 3301, 3501, 3701, 3901, 4101, 4301, 4501, 4701, 4901] h51 h141 := hv141.mono (by decide)
        obtain ⟨b142, rfl, t143, t144⟩ := hr138
        show uRun _ (uCall Mt _) _ 35 (_, [(.inl (bi b142))], _, _, _)
        refine ur_eqB rfl (fun c145 => ?_) (fun c145 => ?_)
        · have t146 := t144 c145
          clear t143 t144
          obtain ⟨f148, f149, f150, f151, hc147, k152⟩ := ok_5 hO141
          have t153 := fO_of (k := 1) hc147 rfl
          have t154 := fO_of (k := 2) hc147 rfl
          have t155 := fO_of (k := 3) hc147 rfl
          have t156 := fO_of (k := 5) hc147 rfl
          have t157 : t (fO h51 5 2) = t (fO h141 5 2) := congrArg t (by omega)
          refine ur_ldA rfl rfl ?_
          refine ur_get rfl hc147 rfl ?_
          refine ur_push rfl ?_
          refine ur_if2 rfl (fun c158 => ?_) (fun c158 => ?_)
          · have t159 := ne_to c158
            refine ur_ldA rfl rfl ?_
            refine ur_get rfl hc147 rfl ?_
            refine ur_push rfl ?_
            refine ur_if2 rfl (fun c160 => ?_) (fun c160 => ?_)
            · have t161 := ne_to c160
              refine ur_ldA rfl rfl ?_
              refine ur_push rfl ?_
              refine ur_putV (W := [1501]) (fs' := [(.inr (.inr (some 6))), (.inl 0), (.inl f149), (.inl f150), (.inr (.inr (some 7))), (.inl f151)]) rfl hO141 hc147 (Nat.le_of_ble_eq_true rfl) rfl rfl ⟨rfl, _, _, _, _, rfl, by omega⟩ rfl (Or.inr (by show 1000 + 100 * wid 5 (108, 6) + 1 ∈ _; rw [(wid_f (by decide))]; decide)) (fun h163 hO163 hv163 d162 hc164 => ?_)
              have hu163 : un [10, 12, 24, 26, 28, 30, 32, 34, 36, 38, 40, 1501, 1901, 2101, 3301, 3501, 3701, 3901, 4101, 4301, 4501, 4701, 4901] h141 h163 := hv163.mono (by decide)
              refine ur_ldA rfl rfl ?_
              refine ur_get rfl hc164 rfl ?_
              have t165 := fO_of (k := 1) hc164 rfl
              have t166 := fO_of (k := 2) hc164 rfl
              have t167 := fO_of (k := 3) hc164 rfl
              have t168 := fO_of (k := 5) hc164 rfl
              exact ur_ret rfl rfl (hQ _ _ ⟨_, rfl, ⟨⟨TRt.c (THt.end (n := fO h141 5 1) (x := f150.toInt) (THt.cast px53 (f2 := fO h141 5 3) (p2 := fO h141 5 2) (by omega) (by omega) hp140) (fun q => by omega) (fun q => BY.t pre1 pre0 (by omega) (by omega)) (fun q => tC_out (tC_un hO51 hO141 hv141 (by decide) (by decide) px52) (Or.inr q)) (by omega) (by omega)) (fun q => by exfalso; omega), by omega⟩, fun q hq _ => (fun q hq => ((txC_5 d162) q hq).trans ((fun q hq => ((txC_un hO51 hO141 hv141 (by decide)) q hq).trans (px54 q hq)) q hq)) q hq⟩⟩ hO163 (hu12.tr (hu19.tr (hu26.tr (hu36.tr (hu51.tr (hu141.tr hu163)))))) (by omega))
            · have t169 := ne_no c160
              exfalso
              omega
          · have t170 := ne_no c158
            refine ur_ldA rfl rfl ?_
            refine ur_get rfl hc147 rfl ?_
            refine ur_ldA rfl rfl ?_
            refine ur_get rfl hc147 rfl ?_
            have z171 := any_r f149
            have z172 := any_r f148
            refine ur_if2 rfl (fun c173 => ?_) (fun c173 => ?_)
            · have t174 := le_to c173
              refine ur_ldA rfl rfl ?_
              refine ur_get rfl hc147 rfl ?_
              refine ur_push rfl ?_
              refine ur_if2 rfl (fun c175 => ?_) (fun c175 => ?_)
              · have t176 := ne_to c175
                exfalso
                omega
              · have t177 := ne_no c175
                refine ur_ldA rfl rfl ?_
                refine ur_ldA rfl rfl ?_
                refine ur_get rfl hc147 rfl ?_
                refine ur_ldA rfl rfl ?_
                refine ur_get rfl hc147 rfl ?_
                obtain ⟨g182, f179, hc178, k180, k181⟩ := hO141.text (hu141.tm (hu51.tm (hu36.tm (hu26.tm (hu19.tm (hu12.tm t1 (by decide)) (by decide)) (by decide)) (by decide)) (by decide)) (by decide))
                refine ur_inl rfl (rcv_of hc178) (Nat.le_of_ble_eq_true rfl) (Nat.le_of_ble_eq_true rfl) (st_X9_takeSteps hO141 (hu141.tm (hu51.tm (hu36.tm (hu26.tm (hu19.tm (hu12.tm t1 (by decide)) (by decide)) (by decide)) (by decide)) (by decide)) (by decide)) (hO141.fix 7 (by decide) rfl) _ (by show 0 ≤ f151.toInt ∧ f151.toInt ≤ 128; omega) (fun w183 h186 hr184 hO186 hv186 hp185 => ?_))
                have hu186 : un [10, 12, 24, 26, 28, 30, 32, 34, 36, 38, 40, 1501, 1901, 2101, 3301, 3501, 3701, 3901, 4101, 4301, 4501, 4701, 4901] h141 h186 := hv186.mono (by decide)
                subst hr184
                show uRun _ (uCall Mt _) _ 95 (_, [], _, _, _)
                obtain ⟨f188, f189, f190, f191, hc187, k192⟩ := ok_5 hO186
                have t193 := fO_of (k := 1) hc187 rfl
                have t194 := fO_of (k := 2) hc187 rfl
                have t195 := fO_of (k := 3) hc187 rfl
                have t196 := fO_of (k := 5) hc187 rfl
                have t197 : fO h186 5 3 = fO h141 5 3 := fO_c9 (hp185.2 5 (Ne.symm (TXQ_5 _ pre2).1) (Ne.symm (TXQ_5 _ pre2).2))
                refine ur_ldA rfl rfl ?_
                refine ur_push rfl ?_
                refine ur_putV (W := [1501]) (fs' := [(.inr (.inr (some 6))), (.inl 0), (.inl f189), (.inl f190), (.inr (.inr (some 7))), (.inl f191)]) rfl hO186 hc187 (Nat.le_of_ble_eq_true rfl) rfl rfl ⟨rfl, _, _, _, _, rfl, by omega⟩ rfl (Or.inr (by show 1000 + 100 * wid 5 (108, 6) + 1 ∈ _; rw [(wid_f (by decide))]; decide)) (fun h199 hO199 hv199 d198 hc200 => ?_)
                have hu199 : un [10, 12, 24, 26, 28, 30, 32, 34, 36, 38, 40, 1501, 1901, 2101, 3301, 3501, 3701, 3901, 4101, 4301, 4501, 4701, 4901] h186 h199 := hv199.mono (by decide)
                refine ur_ldA rfl rfl ?_
                refine ur_get rfl hc200 rfl ?_
                have t201 := fO_of (k := 1) hc200 rfl
                have t202 := fO_of (k := 2) hc200 rfl
                have t203 := fO_of (k := 3) hc200 rfl
                have t204 := fO_of (k := 5) hc200 rfl
                exact ur_ret rfl rfl (hQ _ _ ⟨_, rfl, ⟨⟨TRt.c (THt.end (n := fO h141 5 1) (x := f190.toInt) (THt.cast px53 (f2 := fO h141 5 3) (p2 := fO h141 5 2) (by omega) (by omega) hp140) (fun q => by omega) (fun q => BY.t pre1 pre0 (by omega) (by omega)) (fun q => tC_out (tC_un hO51 hO141 hv141 (by decide) (by decide) px52) (Or.inr q)) (by omega) (by omega)) (fun _ => ((txC_5 d198 _ pre2).trans (hp185.1.trans (by unfold tkC; rw [show fO h141 5 5 = f151.toInt by omega])))), by omega⟩, fun q hq hne => ((txC_5 d198 q hq).trans ((txC_oth hp185.2 pre2 q hq (hne.resolve_right (by omega))).trans ((fun q hq => ((txC_un hO51 hO141 hv141 (by decide)) q hq).trans (px54 q hq)) q hq)))⟩⟩ hO199 (hu12.tr (hu19.tr (hu26.tr (hu36.tr (hu51.tr (hu141.tr (hu186.tr hu199))))))) (by omega))
            · have t205 := le_no c173
              refine ur_ldA rfl rfl ?_
              refine ur_ldA rfl rfl ?_
              refine ur_get rfl hc147 rfl ?_
              refine ur_putV (W := []) (fs' := [(.inr (.inr (some 6))), (.inl f148), (.inl f149), (.inl f149), (.inr (.inr (some 7))), (.inl f151)]) rfl hO141 hc147 (Nat.le_of_ble_eq_true rfl) rfl rfl ⟨rfl, _, _, _, _, rfl, by omega⟩ rfl (Or.inl rfl) (fun h207 hO207 hv207 d206 hc208 => ?_)
              have hu207 : un [10, 12, 24, 26, 28, 30, 32, 34, 36, 38, 40, 1501, 1901, 2101, 3301, 3501, 3701, 3901, 4101, 4301, 4501, 4701, 4901] h141 h207 := hv207.mono (by decide)
              refine ur_ldA rfl rfl ?_
              refine ur_get rfl hc208 rfl ?_
              have t209 := fO_of (k := 1) hc208 rfl
              have t210 := fO_of (k := 2) hc208 rfl
              have t211 := fO_of (k := 3) hc208 rfl
              have t212 := fO_of (k := 5) hc208 rfl
              refine ur_push rfl ?_
              refine ur_if2 rfl (fun c213 => ?_) (fun c213 => ?_)
              · have t214 := ne_to c213
                refine ur_ldA rfl rfl ?_
                refine ur_push rfl ?_
                refine ur_putV (W := [1501]) (fs' := [(.inr (.inr (some 6))), (.inl 0), (.inl f149), (.inl f149), (.inr (.inr (some 7))), (.inl f151)]) rfl hO207 hc208 (Nat.le_of_ble_eq_true rfl) rfl rfl ⟨rfl, _, _, _, _, rfl, by omega⟩ rfl (Or.inr (by show 1000 + 100 * wid 5 (108, 6) + 1 ∈ _; rw [(wid_f (by decide))]; decide)) (fun h216 hO216 hv216 d215 hc217 => ?_)
                have hu216 : un [10, 12, 24, 26, 28, 30, 32, 34, 36, 38, 40, 1501, 1901, 2101, 3301, 3501, 3701, 3901, 4101, 4301, 4501, 4701, 4901] h207 h216 := hv216.mono (by decide)
                refine ur_ldA rfl rfl ?_
                refine ur_get rfl hc217 rfl ?_
                have t218 := fO_of (k := 1) hc217 rfl
                have t219 := fO_of (k := 2) hc217 rfl
                have t220 := fO_of (k := 3) hc217 rfl
                have t221 := fO_of (k := 5) hc217 rfl
                exact ur_ret rfl rfl (hQ _ _ ⟨_, rfl, ⟨⟨TRt.c (THt.end (n := fO h141 5 1) (x := f149.toInt) (THt.cast px53 (f2 := fO h141 5 3) (p2 := fO h141 5 2) (by omega) (by omega) hp140) (fun q => by omega) (fun q => BY.t pre1 pre0 (by omega) (by omega)) (fun q => tC_out (tC_un hO51 hO141 hv141 (by decide) (by decide) px52) (Or.inr q)) (by omega) (by omega)) (fun q => by exfalso; omega), by omega⟩, fun q hq _ => (fun q hq => ((txC_5 d215) q hq).trans ((fun q hq => ((txC_5 d206) q hq).trans ((fun q hq => ((txC_un hO51 hO141 hv141 (by decide)) q hq).trans (px54 q hq)) q hq)) q hq)) q hq⟩⟩ hO216 (hu12.tr (hu19.tr (hu26.tr (hu36.tr (hu51.tr (hu141.tr (hu207.tr hu216))))))) (by omega))
              · have t222 := ne_no c213
                exfalso
                omega
        · have t223 := t143 c145
          clear t143 t144
          refine ur_ldA rfl rfl ?_
          obtain ⟨f225, f226, f227, f228, hc224, k229⟩ := ok_5 hO141
          have t230 := fO_of (k := 1) hc224 rfl
          have t231 := fO_of (k := 2) hc224 rfl
          have t232 := fO_of (k := 3) hc224 rfl
          have t233 := fO_of (k := 5) hc224 rfl
          refine ur_inl rfl (rcv_of hc224) (Nat.le_of_ble_eq_true rfl) (Nat.le_of_ble_eq_true rfl) (st_X8_readLine hO141 (tC_un hO51 hO141 hv141 (by decide) (by decide) px52) (by omega) (THt.go (THt.cast px53 (f2 := fO h51 5 3) (p2 := fO h51 5 2) rfl rfl hp140) (by omega) (by omega) (by omega)) (fun w234 h238 hr235 hO238 hv238 hp236 hp237 => ?_))
          have hu238 : un [10, 12, 24, 26, 28, 30, 32, 34, 36, 38, 40, 1501, 1901, 2101, 3301, 3501, 3701, 3901, 4101, 4301, 4501, 4701, 4901] h141 h238 := hv238.mono (by decide)
          subst hr235
          show uRun _ (uCall Mt _) _ 42 (_, [], _, _, _)
          refine ur_incV (fun z => [some (.inr (.inr (some 5))), some (.inr (.inr (some a1))), some (.inl z)]) rfl rfl (fun _ => rfl) (fun x239 e240 => ?_)
          have t241 := ti_add e240 (by omega) (by omega)
          refine ur_go rfl ?_
          obtain ⟨f243, f244, f245, f246, hc242, k247⟩ := ok_5 hO238
          have t248 := fO_of (k := 1) hc242 rfl
          have t249 := fO_of (k := 2) hc242 rfl
          have t250 := fO_of (k := 3) hc242 rfl
          have t251 := fO_of (k := 5) hc242 rfl
          have z252 := any_r x239
          exact ih40 x239 _ hO238 (hu51.tr (hu141.tr hu238)) (by omega) (tC_un hO141 hO238 hv238 (by decide) (by decide) (tC_un hO51 hO141 hv141 (by decide) (by decide) px52)) hp237 (fun q hq => ((txC_un hO141 hO238 hv238 (by decide)) q hq).trans ((fun q hq => ((txC_un hO51 hO141 hv141 (by decide)) q hq).trans (px54 q hq)) q hq)) (by omega)
  exact L38 _ 0 _ hO36 un.rf (by omega) (tC_un hO26 hO36 hv36 (by decide) (by decide) (tC_un hO19 hO26 hv26 (by decide) (by decide) (tC_un hO12 hO19 hv19 (by decide) (by decide) (tC_un hO0 hO12 hv12 (by decide) (by decide) pre0)))) hp35 (fun q hq => ((txC_un hO26 hO36 hv36 (by decide)) q hq).trans ((fun q hq => ((txC_5 d25) q hq).trans ((fun q hq => ((txC_5 d18) q hq).trans ((txC_5 d11) q hq)) q hq)) q hq)) (Nat.lt_succ_self _)

set_option maxRecDepth 20000 in
set_option maxHeartbeats 4000000 in
theorem st_X1_reckoningOf {d kc ks : Nat} {h0 : aH} {Q : Option aV → aH → Prop} (hO0 : OK h0) (a1 : Int32) (hQ : ∀ r, (∃ o, r = some (.inr (.inr o)) ∧ (∀ z, o = some z → z < 114 ∧ tg h0 z = (109, 2)) ∧ (o = none → ¬ (0 ≤ a1.toInt ∧ a1.toInt ≤ 8)) ∧ (∀ z, o = some z → z = 23 + 2 * a1.toInt.toNat ∧ (0 ≤ a1.toInt ∧ a1.toInt ≤ 8))) → Q r h0) : uCall Mt (d + 3) 7 [(.inr (.inr (some 15))), (.inl a1)] h0 kc ks Q := by
  have l_0 : ((0) : Int32).toInt = 0 := by decide
  have l_8 : ((8) : Int32).toInt = 8 := by decide
  refine uc_ink [some (.inr (.inr (some 15))), some (.inl a1)] mt_7 (Nat.le_of_ble_eq_true rfl) rfl ?_
  refine ur_ldI rfl rfl ?_
  refine ur_callv rfl rfl (Nat.le_of_ble_eq_true rfl) (Nat.le_of_ble_eq_true rfl) rfl (sp_isPpl _ _) ?_
  refine ur_eqB rfl (fun c3 => ?_) (fun c3 => ?_)
  · have t4 := wi_noL c3 l_0 l_8
    refine ur_push rfl ?_
    exact ur_ret rfl rfl (hQ _ ⟨_, rfl, (fun _ e => nomatch e), (fun _ => by omega), (fun _ e => nomatch e)⟩ )
  · have t5 := wi_toL c3 l_0 l_8
    refine ur_ldA rfl rfl ?_
    obtain ⟨f7, f8, f9, f10, hc6, k11⟩ := ok_15 hO0
    refine ur_get rfl hc6 rfl ?_
    refine ur_ldI rfl rfl ?_
    refine ur_txE rfl hO0 (by omega) (fun r12 k13 e14 => ?_)
    refine ur_go rfl ?_
    exact ur_ret rfl rfl (hQ _ ⟨_, rfl, fun _ e => by cases e; exact ⟨k13.1, k13.2⟩, (fun e => nomatch e), (fun z e => by cases e; exact ⟨by omega, by omega⟩)⟩ )

set_option maxRecDepth 20000 in
set_option maxHeartbeats 4000000 in
theorem st_X11_textOf {d kc ks : Nat} {h0 : aH} {Q : Option aV → aH → Prop} (hO0 : OK h0) (a1 : Int32) (hQ : ∀ r, (∃ o, r = some (.inr (.inr o)) ∧ (∀ z, o = some z → z < 114 ∧ tg h0 z = (109, 2)) ∧ (o = none → ¬ (0 ≤ a1.toInt ∧ a1.toInt ≤ 1 ∨ 10 ≤ a1.toInt ∧ a1.toInt ≤ 18)) ∧ (∀ z, o = some z → z = tqN a1.toInt ∧ (0 ≤ a1.toInt ∧ a1.toInt ≤ 1 ∨ 10 ≤ a1.toInt ∧ a1.toInt ≤ 18))) → Q r h0) : uCall Mt (d + 4) 166 [(.inr (.inr (some 0))), (.inl a1)] h0 kc ks Q := by
  have l_0 : ((0) : Int32).toInt = 0 := by decide
  have l_1 : ((1) : Int32).toInt = 1 := by decide
  have l_10 : ((10) : Int32).toInt = 10 := by decide
  refine uc_ink [some (.inr (.inr (some 0))), some (.inl a1)] mt_166 (Nat.le_of_ble_eq_true rfl) rfl ?_
  refine ur_ldI rfl rfl ?_
  refine ur_if1 rfl (fun c1 => ?_) (fun c1 => ?_)
  · have t2 := ne_to c1
    refine ur_ldI rfl rfl ?_
    refine ur_push rfl ?_
    refine ur_if2 rfl (fun c3 => ?_) (fun c3 => ?_)
    · have t4 := ne_to c3
      refine ur_ldA rfl rfl ?_
      obtain ⟨hc5, k6⟩ := ok_0 hO0
      refine ur_get rfl hc5 rfl ?_
      refine ur_ldI rfl rfl ?_
      refine ur_push rfl ?_
      refine ur_binV rfl (fun x7 e8 => ?_)
      have z9 := any_r a1
      have t10 := ti_subw e8
      have z11 := any_r x7
      obtain ⟨f13, f14, f15, f16, hc12, k17⟩ := ok_15 hO0
      refine ur_inl rfl (rcv_of hc12) (Nat.le_of_ble_eq_true rfl) (Nat.le_of_ble_eq_true rfl) (st_X1_reckoningOf hO0 _ (fun w18 hr19 => ?_))
      obtain ⟨o20, rfl, k21, t22, t23⟩ := hr19
      show uRun _ (uCall Mt _) _ 36 (_, [(.inr (.inr o20))], _, _, _)
      exact ur_ret rfl rfl (hQ _ ⟨_, rfl, k21, (fun e => by have e := t22 e; omega), (fun z e => by have e := t23 z e; unfold tqN; rw [if_neg (by omega)]; omega)⟩ )
    · have t24 := ne_no c3
      refine ur_ldA rfl rfl ?_
      obtain ⟨hc25, k26⟩ := ok_0 hO0
      refine ur_get rfl hc25 rfl ?_
      obtain ⟨f28, hc27, k29⟩ := ok_8 hO0
      refine ur_get rfl hc27 rfl ?_
      exact ur_ret rfl rfl (hQ _ ⟨_, rfl, fun _ e => by cases e; exact ⟨by decide, (hO0.fix 11 (by decide) rfl)⟩, (fun e => nomatch e), (fun z e => by cases e; unfold tqN; rw [if_pos (by omega)]; omega)⟩ )
  · have t30 := ne_no c1
    refine ur_ldA rfl rfl ?_
    obtain ⟨hc31, k32⟩ := ok_0 hO0
    refine ur_get rfl hc31 rfl ?_
    obtain ⟨f34, hc33, k35⟩ := ok_8 hO0
    refine ur_get rfl hc33 rfl ?_
    exact ur_ret rfl rfl (hQ _ ⟨_, rfl, fun _ e => by cases e; exact ⟨by decide, (hO0.fix 9 (by decide) rfl)⟩, (fun e => nomatch e), (fun z e => by cases e; unfold tqN; rw [if_pos (by omega)]; omega)⟩ )

end TCL
