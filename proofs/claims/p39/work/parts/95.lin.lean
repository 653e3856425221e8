/-! A TEXT'S LINES, and how they come to their place -/
section LIN
def lm (h : aH) : Int := ((arI h 85).getD 11 0).toInt
def TR (h : aH) (n : Nat) : Prop := ∀ l, l < n → lnX h 11 l
def kq (h h' : aH) (n : Nat) : Prop := ∀ i, i < n → (arI h' 86)[i]? = (arI h 86)[i]? ∧ (arI h' 87)[i]? = (arI h 87)[i]?
def km (h h' : aH) : Prop := ∀ i, i < 11 → (arI h' 85)[i]? = (arI h 85)[i]?
theorem gd_eq {A B : List Int32} {i j : Nat} (h : A[i]? = B[j]?) : A.getD i 0 = B.getD j 0 := by
  rw [List.getD_eq_getElem?_getD, List.getD_eq_getElem?_getD, h]
theorem txs_kp {h h' : aH} {p i j N : Nat} (g : txs h p i j) (k : kp h h' N) (hN : 130 * p + j ≤ N) : txs h' p i j := by
  obtain ⟨m, hm⟩ := g
  exact ⟨m, by rw [seg_same (fun a ha => k a (by omega))]; exact hm⟩
theorem frL_kq {h h' : aH} {p m N : Nat} (k : kq h h' N) (hm : 61 * p + m ≤ N) : frL h' p m = frL h p m := by
  cases m with
  | zero => rfl
  | succ m => exact congrArg iN (gd_eq (k _ (by omega)).2)
theorem lnX_keep {h h' : aH} {p l N M : Nat} (g : lnX h p l) (k : kp h h' N) (k' : kq h h' M) (hN : 130 * p + iN ((arI h 87).getD (61 * p + l) 0) ≤ N) (hM : 61 * p + l < M) : lnX h' p l := by
  obtain ⟨g1, g2, g3, g4, g5⟩ := g
  unfold lnX
  rw [frL_kq k' (show 61 * p + l ≤ M by omega), gd_eq (k' _ hM).1, gd_eq (k' _ hM).2]
  exact ⟨g1, g2, g3, fun q => txs_kp (g4 q) k (by omega), txs_kp g5 k hN⟩
theorem le_fr {h : aH} {n : Nat} (g : TR h n) {l : Nat} (hl : l < n) : iN ((arI h 87).getD (61 * 11 + l) 0) ≤ frL h 11 n := by
  induction n with
  | zero => omega
  | succ n ih =>
    by_cases q : l = n
    · subst q
      exact Nat.le_refl _
    · have h1 := ih (fun l hl => g l (by omega)) (by omega)
      obtain ⟨g1, g2, -⟩ := g n (Nat.lt_succ_self n)
      exact Nat.le_trans h1 (Nat.le_trans g1 g2)
theorem TR_keep {h h' : aH} {n N : Nat} (g : TR h n) (k : kp h h' N) (k' : kq h h' (671 + n)) (hN : 1430 + frL h 11 n ≤ N) : TR h' n := fun l hl => lnX_keep (g l hl) k k' (by have := le_fr g hl; omega) (by omega)
theorem many_le {h : aH} (hO : OK h) (p : Nat) : iN ((arI h 85).getD p 0) ≤ 61 := by
  obtain ⟨xs, hc, hn, he⟩ := hO.int (hO.fix 85 (by decide) rfl)
  rw [arI_of hc, List.getD_eq_getElem?_getD]
  cases hx : xs[p]? with
  | none => decide
  | some x =>
    have hr : 0 ≤ x.toInt ∧ x.toInt ≤ 61 := he _ _ hx
    show iN x ≤ 61
    unfold iN
    omega
theorem TX.keep {h h' : aH} (hX : TX h) (hO : OK h) (k : kp h h' 1430) (k' : kq h h' 671) (k5 : km h h') : TX h' := fun p hp l hl => by
  rw [gd_eq (k5 p hp)] at hl
  have hm := many_le hO p
  have g := hX p hp l hl
  exact lnX_keep g k k' (by have := g.2.2.1; omega) (by omega)
theorem line_ends {h0 h' : aH} {n L0 : Nat} {te le : Int32} (hT : TR h0 n) (hf : frL h0 11 n = L0) (K : kp h0 h' (1430 + L0)) (Kq : kq h0 h' (671 + n)) (e6 : (arI h' 86).getD (671 + n) 0 = te) (e7 : (arI h' 87).getD (671 + n) 0 = le) (h1 : L0 ≤ iN te) (h2 : iN te ≤ iN le) (h3 : iN le ≤ 130) (b1 : iN te ≠ L0 → bk h' (1430 + L0) (1430 + iN te)) (b2 : bk h' (1430 + iN te) (1430 + iN le)) : TR h' (n + 1) ∧ frL h' 11 (n + 1) = iN le := by
  have ef : frL h' 11 n = L0 := (frL_kq Kq (by omega)).trans hf
  refine ⟨fun l hl => ?_, congrArg iN e7⟩
  by_cases q : l = n
  · subst q
    unfold lnX
    rw [ef, show 61 * 11 + l = 671 + l from rfl, e6, e7]
    exact ⟨h1, h2, h3, fun q => ⟨1, b1 q 0⟩, ⟨1, b2 0⟩⟩
  · exact TR_keep hT K Kq (by omega) l (by omega)
theorem lm_of {h : aH} {xs : List Int32} {x : Int32} {kd : Nat} (hc : h[85]? = some (.inr (kd, .inl xs))) (hx : xs[(11 : Int32).toInt.toNat]? = some x) : lm h = x.toInt := by
  unfold lm
  rw [arI_of hc, List.getD_eq_getElem?_getD, show xs[11]? = some x from hx]
  rfl
theorem gd_set {h' : aH} {a kd i : Nat} {zs : List Int32} {j v : Int32} (hd : h'[a]? = some (.inr (kd, .inl (zs.set j.toInt.toNat v)))) (e : i = j.toInt.toNat) (hl : i < zs.length) : (arI h' a).getD i 0 = v := by
  rw [arI_of hd, List.getD_eq_getElem?_getD, e, List.getElem?_set_self (by omega)]
  rfl
theorem kq_of {h h' : aH} {k1 k2 k3 k4 n : Nat} {xs xs' ys ys' : List Int32} (hc : h[86]? = some (.inr (k1, .inl xs))) (hd : h'[86]? = some (.inr (k2, .inl xs'))) (he : h[87]? = some (.inr (k3, .inl ys))) (hf : h'[87]? = some (.inr (k4, .inl ys'))) (h1 : ∀ i, i < n → xs'[i]? = xs[i]?) (h2 : ∀ i, i < n → ys'[i]? = ys[i]?) : kq h h' n := fun i hi => by
  rw [arI_of hc, arI_of hd, arI_of he, arI_of hf]
  exact ⟨h1 i hi, h2 i hi⟩
theorem km_of {h h' : aH} {k1 k2 : Nat} {xs xs' : List Int32} (hc : h[85]? = some (.inr (k1, .inl xs))) (hd : h'[85]? = some (.inr (k2, .inl xs'))) (h1 : ∀ i, i < 11 → xs'[i]? = xs[i]?) : km h h' := fun i hi => by
  rw [arI_of hc, arI_of hd]
  exact h1 i hi
/-- copied: k places from src to dst -/
def cp (A A' : List Int32) (src dst k : Nat) : Prop := ∀ i, A'[i]? = if dst ≤ i ∧ i < dst + k then A[src + (i - dst)]? else A[i]?
theorem cp.z {A : List Int32} {src dst : Nat} : cp A A src dst 0 := fun i => by rw [if_neg (by omega)]
theorem cp.s {A A' : List Int32} {src dst k n : Nat} {v w : Int32} (g : cp A A' src dst k) (hd : dst + k < src) (hl : src + k < n) (hn : A'.length = n) (hv : A'[src + k]? = some v) (hw : w = v) {i k' : Nat} (ei : i = dst + k) (ek : k' = k + 1) : cp A (A'.set i w) src dst k' := fun m => by
  subst ei
  subst ek
  by_cases q : m = dst + k
  · subst q
    rw [List.getElem?_set_self (by omega), if_pos (by omega), show src + (dst + k - dst) = src + k by omega]
    have h1 := g (src + k)
    rw [hv, if_neg (by omega)] at h1
    rw [← h1, hw]
  · rw [List.getElem?_set_ne (by omega), g m]
    by_cases r : dst ≤ m ∧ m < dst + k
    · rw [if_pos r, if_pos (by omega)]
    · rw [if_neg r, if_neg (by omega)]
theorem seg_shift {A B A' B' : List Int32} {a b i j : Nat} (h : ∀ m, m < j → A'[a + m]? = A[b + m]? ∧ B'[a + m]? = B[b + m]?) : seg A' B' (a + i) (a + j) = seg A B (b + i) (b + j) := by
  apply List.ext_getElem?
  intro k
  unfold seg
  rw [List.getElem?_take, List.getElem?_take, show a + j - (a + i) = j - i by omega, show b + j - (b + i) = j - i by omega]
  by_cases q : k < j - i
  · rw [if_pos q, if_pos q, List.getElem?_drop, List.getElem?_drop]
    obtain ⟨e1, e2⟩ := h (i + k) (by omega)
    show (List.zipWith Prod.mk A' B')[a + i + k]? = (List.zipWith Prod.mk A B)[b + i + k]?
    rw [List.getElem?_zipWith, List.getElem?_zipWith, show a + i + k = a + (i + k) by omega, show b + i + k = b + (i + k) by omega, e1, e2]
  · rw [if_neg q, if_neg q]
theorem TX_copied {h h' : aH} {p n L : Nat} (hp : p < 11) (hO : OK h) (hX : TX h) (hT : TR h n) (hf : frL h 11 n = L) (c3 : cp (arI h 83) (arI h' 83) 1430 (130 * p) L) (c4 : cp (arI h 84) (arI h' 84) 1430 (130 * p) L) (c6 : cp (arI h 86) (arI h' 86) 671 (61 * p) n) (c7 : cp (arI h 87) (arI h' 87) 671 (61 * p) n) (e5 : ∀ i, i < 11 → i ≠ p → (arI h' 85)[i]? = (arI h 85)[i]?) (e5p : iN ((arI h' 85).getD p 0) = n) (hn : n ≤ 61) (hL : L ≤ 130) : TX h' := fun q hq l hl => by
  by_cases e : q = p
  · subst e
    rw [e5p] at hl
    obtain ⟨g1, g2, g3, g4, g5⟩ := hT l hl
    have t6 : (arI h' 86).getD (61 * q + l) 0 = (arI h 86).getD (61 * 11 + l) 0 := gd_eq (by rw [c6, if_pos (by omega), show 671 + (61 * q + l - 61 * q) = 61 * 11 + l by omega])
    have t7 : ∀ l, l < n → (arI h' 87).getD (61 * q + l) 0 = (arI h 87).getD (61 * 11 + l) 0 := fun l hl => gd_eq (by rw [c7, if_pos (by omega), show 671 + (61 * q + l - 61 * q) = 61 * 11 + l by omega])
    have tf : frL h' q l = frL h 11 l := by
      cases l with
      | zero => rfl
      | succ l => exact congrArg iN (t7 l (by omega))
    have hle := le_fr hT hl
    have tx : ∀ i j, j ≤ L → txs h 11 i j → txs h' q i j := fun i j hj g => by
      obtain ⟨m, hm⟩ := g
      refine ⟨m, ?_⟩
      rw [seg_shift (a := 130 * q) (b := 130 * 11) (A := arI h 83) (B := arI h 84) (fun x hx => ⟨by rw [c3, if_pos (by omega), show 1430 + (130 * q + x - 130 * q) = 130 * 11 + x by omega], by rw [c4, if_pos (by omega), show 1430 + (130 * q + x - 130 * q) = 130 * 11 + x by omega]⟩)]
      exact hm
    unfold lnX
    rw [tf, t6, t7 l hl]
    exact ⟨g1, g2, g3, fun r => tx _ _ (by omega) (g4 r), tx _ _ (by omega) g5⟩
  · rw [gd_eq (e5 q hq e)] at hl
    have hm := many_le hO q
    obtain ⟨g1, g2, g3, g4, g5⟩ := hX q hq l hl
    have t6 : (arI h' 86).getD (61 * q + l) 0 = (arI h 86).getD (61 * q + l) 0 := gd_eq (by rw [c6, if_neg (by omega)])
    have t7 : ∀ l, l < 61 → (arI h' 87).getD (61 * q + l) 0 = (arI h 87).getD (61 * q + l) 0 := fun l hl => gd_eq (by rw [c7, if_neg (by omega)])
    have tf : frL h' q l = frL h q l := by
      cases l with
      | zero => rfl
      | succ l => exact congrArg iN (t7 l (by omega))
    have tx : ∀ i j, j ≤ 130 → txs h q i j → txs h' q i j := fun i j hj g => by
      obtain ⟨m, hm⟩ := g
      refine ⟨m, ?_⟩
      rw [seg_shift (a := 130 * q) (b := 130 * q) (A := arI h 83) (B := arI h 84) (fun x hx => ⟨by rw [c3, if_neg (by omega)], by rw [c4, if_neg (by omega)]⟩)]
      exact hm
    unfold lnX
    rw [tf, t6, t7 l (by omega)]
    exact ⟨g1, g2, g3, fun r => tx _ _ (by omega) (g4 r), tx _ _ (by omega) g5⟩
end LIN
section LIN2
def lnV (h : aH) (p : Nat) : Int := ((arI h 85).getD p 0).toInt
theorem arI_c {h h' : aH} {a : Nat} (e : h'[a]? = h[a]?) : arI h' a = arI h a := by
  unfold arI
  rw [e]
theorem lnV_c {h h' : aH} {p : Nat} (e : h'[85]? = h[85]?) : lnV h' p = lnV h p := by
  unfold lnV
  rw [arI_c e]
theorem lm_c {h h' : aH} (e : h'[85]? = h[85]?) : lm h' = lm h := lnV_c e
theorem lm_e {h h' : aH} (e : arI h' 85 = arI h 85) : lm h' = lm h := by
  unfold lm
  rw [e]
theorem lnV_of {h : aH} {xs : List Int32} {p x : Int32} {kd : Nat} (hc : h[85]? = some (.inr (kd, .inl xs))) (hx : xs[p.toInt.toNat]? = some x) : lnV h (iN p) = x.toInt := by
  unfold lnV
  rw [arI_of hc, List.getD_eq_getElem?_getD, show xs[iN p]? = some x from hx]
  rfl
theorem lnV_set {h' : aH} {kd : Nat} {zs : List Int32} {p v : Int32} (hd : h'[85]? = some (.inr (kd, .inl (zs.set p.toInt.toNat v)))) (hl : iN p < zs.length) : lnV h' (iN p) = v.toInt := congrArg Int32.toInt (gd_set hd rfl hl)
theorem lm_set {h' : aH} {kd : Nat} {zs : List Int32} {p v : Int32} (hd : h'[85]? = some (.inr (kd, .inl (zs.set p.toInt.toNat v)))) (e : 11 = p.toInt.toNat) (hl : 11 < zs.length) : lm h' = v.toInt := congrArg Int32.toInt (gd_set hd e hl)
theorem TX.cong {h h' : aH} (hX : TX h) (e : ∀ b, b ≠ 69 → h'[b]? = h[b]?) : TX h' := hX.same (arI_c (e _ (by decide))) (arI_c (e _ (by decide))) (arI_c (e _ (by decide))) (arI_c (e _ (by decide))) (arI_c (e _ (by decide)))
theorem TX.c85 {h h' : aH} {k1 k2 : Nat} {xs : List Int32} {j v : Int32} (hX : TX h) (hO : OK h) (e : ∀ b, b ≠ 85 → h'[b]? = h[b]?) (hc : h[85]? = some (.inr (k1, .inl xs))) (hd : h'[85]? = some (.inr (k2, .inl (xs.set j.toInt.toNat v)))) (hj : j.toInt = 11) : TX h' :=
  hX.keep hO (fun i _ => by rw [arI_c (e 83 (by decide)), arI_c (e 84 (by decide))]; exact ⟨rfl, rfl⟩) (fun i _ => by rw [arI_c (e 86 (by decide)), arI_c (e 87 (by decide))]; exact ⟨rfl, rfl⟩) (km_of hc hd (fun i hi => List.getElem?_set_ne (by omega)))
def TL (h : aH) : Prop := TR h (lm h).toNat ∧ frL h 11 (lm h).toNat = (fI h 23).toNat
theorem TL.cong {h h' : aH} (g : TL h) (e : ∀ b, b ≠ 69 → h'[b]? = h[b]?) (f : fI h' 23 = fI h 23) : TL h' := by
  have e3 := arI_c (e 83 (by decide))
  have e4 := arI_c (e 84 (by decide))
  have e6 := arI_c (e 86 (by decide))
  have e7 := arI_c (e 87 (by decide))
  unfold TL at g ⊢
  rw [lm_c (e 85 (by decide)), f]
  refine ⟨TR_keep g.1 (N := 1430 + frL h 11 (lm h).toNat) (fun i _ => by rw [e3, e4]; exact ⟨rfl, rfl⟩) (fun i _ => by rw [e6, e7]; exact ⟨rfl, rfl⟩) (Nat.le_refl _), ?_⟩
  rw [← g.2]
  exact frL_kq (N := 61 * 11 + (lm h).toNat) (fun i _ => by rw [e6, e7]; exact ⟨rfl, rfl⟩) (Nat.le_refl _)
theorem TL.z {h : aH} (e1 : lm h = 0) (e2 : fI h 23 = 0) : TL h := by
  unfold TL
  rw [e1, e2]
  exact ⟨fun _ q => absurd q (Nat.not_lt_zero _), rfl⟩
theorem TL.of {h' : aH} {n : Nat} {le : Int32} (g : TR h' (n + 1) ∧ frL h' 11 (n + 1) = iN le) (e1 : lm h' = (n : Int) + 1) (e2 : fI h' 23 = le.toInt) : TL h' := by
  unfold TL
  rw [e1, e2, show ((n : Int) + 1).toNat = n + 1 by omega]
  exact g
end LIN2
