/-! ARRAYS by their elements; what is written into one -/
section PGL
def gI (h : aH) (a : Nat) (j : Int) : Int := ((arI h a).getD j.toNat 0).toInt
theorem gI_of {h : aH} {a kd : Nat} {xs : List Int32} {j z : Int32} (hc : h[a]? = some (.inr (kd, .inl xs))) (hx : xs[j.toInt.toNat]? = some z) : gI h a j.toInt = z.toInt := by
  unfold gI
  rw [arI_of hc, List.getD_eq_getElem?_getD, hx]
  rfl
theorem gI_keep {W : List Nat} {h h' : aH} {a kd n : Nat} (hO : OK h) (g : un W h h') (j : Int) (ha : a < 114) (ht : T0.getD a (999, 0) = (kd, n)) (hk : kd < 4) (h1 : scA a = false) (h2 : (kd, n) ∉ meM) (h3 : a ∉ W) : gI h' a j = gI h a j := by
  unfold gI
  rw [arI_keep hO g ha ht hk h1 h2 h3]
theorem gI_rg {h : aH} {a n : Nat} (hO : OK h) (ha : a < 114) (ht : T0.getD a (999, 0) = (0, n)) (hr : (rng a).1 ≤ 0 ∧ 0 ≤ (rng a).2) (j : Int) : (rng a).1 ≤ gI h a j ∧ gI h a j ≤ (rng a).2 := by
  obtain ⟨xs, hc, hn, he⟩ := hO.int (hO.fix a ha ht)
  unfold gI
  rw [arI_of hc, List.getD_eq_getElem?_getD]
  cases q : xs[j.toNat]? with
  | none => exact hr
  | some y => exact he _ _ q
theorem gI61 {h : aH} (hO : OK h) (j : Int) : 0 ≤ gI h 61 j ∧ gI h 61 j ≤ 60 := gI_rg (a := 61) (n := 6) hO (by decide) rfl (by decide) j
theorem gI111 {h : aH} (hO : OK h) (j : Int) : 0 ≤ gI h 111 j ∧ gI h 111 j ≤ 60 := gI_rg (a := 111) (n := 6) hO (by decide) rfl (by decide) j
def arJ (h : aH) (a : Nat) : List Int64 := match h[a]? with
  | some (Sum.inr (_, Sum.inr (Sum.inl xs))) => xs
  | _ => []
theorem arJ_of {h : aH} {a kd : Nat} {xs : List Int64} (hc : h[a]? = some (.inr (kd, .inr (.inl xs)))) : arJ h a = xs := by
  unfold arJ
  rw [hc]
def gL (h : aH) (a : Nat) (j : Int) : Int64 := (arJ h a).getD j.toNat 0
theorem gL_of {h : aH} {a kd : Nat} {xs : List Int64} {j : Int32} {z : Int64} (hc : h[a]? = some (.inr (kd, .inr (.inl xs)))) (hx : xs[j.toInt.toNat]? = some z) : gL h a j.toInt = z := by
  unfold gL
  rw [arJ_of hc, List.getD_eq_getElem?_getD, hx]
  rfl
theorem arJ_keep {W : List Nat} {h h' : aH} (hO : OK h) (g : un W h h') {a n : Nat} (ha : a < 114) (ht : T0.getD a (999, 0) = (4, n)) (h1 : scA a = false) (h2 : (4, n) ∉ meM) (h3 : a ∉ W) : arJ h' a = arJ h a := by
  obtain ⟨x, hc, hn, hs⟩ := hO.arr (hO.fix a ha ht) (by decide)
  obtain ⟨xs, rfl⟩ : ∃ xs, x = .inr (.inl xs) := hs
  rw [arJ_of hc, arJ_of (g.ka hc hn h1 h2 (wid_f ha) h3)]
theorem arJ_c {h h' : aH} {a : Nat} (e : h'[a]? = h[a]?) : arJ h' a = arJ h a := by
  unfold arJ
  rw [e]
/-- one array of ints is written, nothing else -/
def wI (h h' : aH) (a : Nat) (xs : List Int32) : Prop := arI h' a = xs ∧ ∀ b, b ≠ a → h'[b]? = h[b]?
def wJ (h h' : aH) (a : Nat) (xs : List Int64) : Prop := arJ h' a = xs ∧ ∀ b, b ≠ a → h'[b]? = h[b]?
theorem wI.oI {h h' : aH} {a b : Nat} {xs : List Int32} (w : wI h h' a xs) (hb : b ≠ a) : arI h' b = arI h b := arI_c (w.2 b hb)
theorem wI.oJ {h h' : aH} {a b : Nat} {xs : List Int32} (w : wI h h' a xs) (hb : b ≠ a) : arJ h' b = arJ h b := arJ_c (w.2 b hb)
theorem wJ.oI {h h' : aH} {a b : Nat} {xs : List Int64} (w : wJ h h' a xs) (hb : b ≠ a) : arI h' b = arI h b := arI_c (w.2 b hb)
theorem wJ.oJ {h h' : aH} {a b : Nat} {xs : List Int64} (w : wJ h h' a xs) (hb : b ≠ a) : arJ h' b = arJ h b := arJ_c (w.2 b hb)
variable {d pc n kc ks : Nat} {T : aTab} {Q : Option aV → aH → Prop} {al : aL} {st : List aV} {h : aH}
theorem sd_fillJ {W : List Nat} {a m : Nat} {v : Int64} {xs : List Int64} (hO : OK h) (ha : h[a]? = some (.inr (4, .inr (.inl xs)))) (hn : xs.length = m) (hm : m < 2147483648) (hw : scA a = true ∨ (4, m) ∈ meM ∨ wid a (4, m) ∈ W) (k : ∀ h', OK h' → un W h h' → (∀ b, b ≠ a → h'[b]? = h[b]?) → h'[a]? = some (.inr (4, .inr (.inl (List.replicate m v)))) → Q none h') : uCall Mt (d + 1) 306 [.inr (.inr (some a)), .inr (.inl v)] h kc ks Q := by
  refine uCall_kc (mc := 0) (ms := 0) (uc_post (sp_fillJ (by omega) ha) (fun r h' e => ?_))
  obtain ⟨rfl, rfl⟩ := e
  refine k _ (hO.set ha (by simp [tgC, aLen]) ⟨_, rfl⟩) (un.ars ha (by simp [aLen]) ?_) set_ne ((hs_eq ha).trans (by rw [hn]))
  show scA a = true ∨ (4, xs.length) ∈ meM ∨ wid a (4, xs.length) ∈ W
  rw [hn]
  exact hw
theorem ur_cpJE {W : List Nat} {m dp sp : Int32} {a1 a0 n0 n1 : Nat} {xs ys : List Int64} (ho : aAt T pc = some (.inl (oCpJ n))) (hO : OK h) (ha0 : h[a0]? = some (.inr (4, .inr (.inl xs)))) (ha1 : h[a1]? = some (.inr (4, .inr (.inl ys)))) (hn0 : xs.length = n0) (hn1 : ys.length = n1) (b1 : 0 ≤ sp.toInt ∧ 0 ≤ dp.toInt ∧ 0 ≤ m.toInt ∧ sp.toInt + m.toInt ≤ (n0 : Int) ∧ dp.toInt + m.toInt ≤ (n1 : Int)) (b6 : st.length ≤ 4) (hw : scA a1 = true ∨ (4, n1) ∈ meM ∨ wid a1 (4, n1) ∈ W) (k : ∀ h', OK h' → un W h h' → (∀ b, b ≠ a1 → h'[b]? = h[b]?) → h'[a1]? = some (.inr (4, .inr (.inl (cpL 0 xs ys sp.toInt.toNat dp.toInt.toNat m.toInt.toNat)))) → uRun T (uCall Mt d) Q n (al, st, h', kc, ks)) : uRun T (uCall Mt d) Q pc (al, .inl m :: .inl dp :: .inr (.inr (some a1)) :: .inl sp :: .inr (.inr (some a0)) :: st, h, kc, ks) := by
  refine ur_cpJ ho ha0 ha1 b1.1 b1.2.1 b1.2.2.1 (by omega) (by omega) b6 (k _ (hO.set ha1 (by simp [tgC, aLen, cpL_len]) ⟨_, rfl⟩) (un.ars ha1 (by simp [aLen, cpL_len]) ?_) set_ne (hs_eq ha1))
  show scA a1 = true ∨ (4, ys.length) ∈ meM ∨ wid a1 (4, ys.length) ∈ W
  rw [hn1]
  exact hw
theorem ur_rowE {j : Int32} (ho : aAt T pc = some (.inl (oAldA n 8))) (hO : OK h) (hj : 0 ≤ j.toInt ∧ j.toInt < 6) (k : ∀ z, (63 ≤ z ∧ z ≤ 68) ∧ tg h z = (4, 60) → z = 63 + j.toInt.toNat → uRun T (uCall Mt d) Q n (al, .inr (.inr (some z)) :: st, h, kc, ks)) : uRun T (uCall Mt d) Q pc (al, .inl j :: .inr (.inr (some 62)) :: st, h, kc, ks) := by
  obtain ⟨x, h1, -, h2⟩ := hO.arr (hO.fix 62 (by decide) rfl) (by decide)
  have h2 : x = .inr (.inr [some 63, some 64, some 65, some 66, some 67, some 68]) := h2
  subst h2
  have hz : ([some 63, some 64, some 65, some 66, some 67, some 68] : List (Option Nat))[j.toNatClampNeg]? = some (some (63 + j.toInt.toNat)) ∧ T0.getD (63 + j.toInt.toNat) (999, 0) = (4, 60) := by
    have e : j.toNatClampNeg = j.toInt.toNat := rfl
    rw [e]
    rcases (show j.toInt = 0 ∨ j.toInt = 1 ∨ j.toInt = 2 ∨ j.toInt = 3 ∨ j.toInt = 4 ∨ j.toInt = 5 by omega) with q | q | q | q | q | q <;> rw [q] <;> exact ⟨rfl, rfl⟩
  obtain ⟨h3, h5⟩ := hz
  exact ur_aldA ho h1 (pos_ix hj.1) h3 (k _ ⟨by omega, hO.fix _ (by omega) h5⟩ rfl)
end PGL
