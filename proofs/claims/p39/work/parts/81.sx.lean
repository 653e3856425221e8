/-! WHAT HOLDS of the reference's cells beside their ranges, between two calls -/
section SXX
theorem fI_keep {W : List Nat} {h h' : aH} {k : Nat} (hO : OK h) (hO' : OK h') (g : un W h h') (h1 : scr 12 k = false) (h2 : 7900 + k ∉ W) : fI h' k = fI h k := by
  obtain ⟨fs, hc⟩ := hO.mod
  obtain ⟨gs, hd⟩ := hO'.mod
  have e := g.fe hc hd k (wid_f (by decide)) h1 h2
  unfold fI
  rw [hc, hd]
  show (match gs[k]? with
    | some (Sum.inl x) => x.toInt
    | _ => 0) = (match fs[k]? with
    | some (Sum.inl x) => x.toInt
    | _ => 0)
  rw [e]
/-- an array of ints, as a list -/
def arI (h : aH) (a : Nat) : List Int32 := match h[a]? with
  | some (Sum.inr (_, Sum.inl xs)) => xs
  | _ => []
theorem arI_of {h : aH} {a kd : Nat} {xs : List Int32} (hc : h[a]? = some (.inr (kd, .inl xs))) : arI h a = xs := by
  unfold arI
  rw [hc]
theorem arI_keep {W : List Nat} {h h' : aH} (hO : OK h) (g : un W h h') {a kd n : Nat} (ha : a < 114) (ht : T0.getD a (999, 0) = (kd, n)) (hk : kd < 4) (h1 : scA a = false) (h2 : (kd, n) ∉ meM) (h3 : a ∉ W) : arI h' a = arI h a := by
  obtain ⟨x, hc, hn, hs⟩ := hO.arr (hO.fix a ha ht) (by omega)
  have hx : ∃ xs, x = .inl xs := by
    match kd, hk, hs with
    | 0, _, hs => obtain ⟨xs, e, _⟩ := hs; exact ⟨xs, e⟩
    | 1, _, hs => obtain ⟨xs, e, _⟩ := hs; exact ⟨xs, e⟩
    | 2, _, hs => obtain ⟨xs, e, _⟩ := hs; exact ⟨xs, e⟩
    | 3, _, hs => obtain ⟨xs, e, _⟩ := hs; exact ⟨xs, e⟩
  obtain ⟨xs, rfl⟩ := hx
  rw [arI_of hc, arI_of (g.ka hc hn h1 h2 (wid_f ha) h3)]
/-- rounds are 100 at least; a comet broke of an earlier one; reaches are 5 at least; a word is copied of an earlier one -/
def GX (h : aH) : Prop := ∀ (i : Nat) x, (arI h 70)[i]? = some x → (i : Int) < fI h 1 → 100 ≤ x.toInt
def KX (h : aH) : Prop := ∀ (i : Nat) x, (arI h 78)[i]? = some x → (i : Int) < fI h 4 → x.toInt < (i : Int)
def RX (h : aH) : Prop := ∀ (i : Nat) x, (arI h 75)[i]? = some x → (i : Int) < fI h 4 → 5 ≤ x.toInt
def WX (h : aH) : Prop := ∀ (i : Nat) k m, (arI h 96)[i]? = some k → (arI h 103)[i]? = some m → (i : Int) < fI h 38 → k.toInt = 3 → 0 ≤ m.toInt ∧ m.toInt < (i : Int)
/-- steps of a text: what they leave on the pile -/
def seg (A B : List Int32) (i j : Nat) : List (Int32 × Int32) := ((A.zip B).drop i).take (j - i)
def stp (n : Nat) (q : Int32 × Int32) : Option Nat := if q.1.toInt = 1 ∨ (q.1.toInt = 2 ∧ 0 ≤ q.2.toInt ∧ q.2.toInt ≤ 9) then some (n + 1) else if q.1.toInt = 2 then none else if q.1.toInt = 3 ∨ q.1.toInt = 4 then (if 1 ≤ n then some n else none) else (if 2 ≤ n then some (n - 1) else none)
def rns : List (Int32 × Int32) → Nat → Option Nat
  | [], n => some n
  | q :: l, n => match stp n q with
    | some m => rns l m
    | none => none
def iN (x : Int32) : Nat := x.toInt.toNat
/-- the steps of text p from i to j are sound -/
def txs (h : aH) (p i j : Nat) : Prop := ∃ m, rns (seg (arI h 83) (arI h 84) (130 * p + i) (130 * p + j)) 0 = some m
def frL (h : aH) (p l : Nat) : Nat := match l with
  | 0 => 0
  | k + 1 => iN ((arI h 87).getD (61 * p + k) 0)
def lnX (h : aH) (p l : Nat) : Prop := frL h p l ≤ iN ((arI h 86).getD (61 * p + l) 0) ∧ iN ((arI h 86).getD (61 * p + l) 0) ≤ iN ((arI h 87).getD (61 * p + l) 0) ∧ iN ((arI h 87).getD (61 * p + l) 0) ≤ 130 ∧ (iN ((arI h 86).getD (61 * p + l) 0) ≠ frL h p l → txs h p (frL h p l) (iN ((arI h 86).getD (61 * p + l) 0))) ∧ txs h p (iN ((arI h 86).getD (61 * p + l) 0)) (iN ((arI h 87).getD (61 * p + l) 0))
def TX (h : aH) : Prop := ∀ p, p < 11 → ∀ l, l < iN ((arI h 85).getD p 0) → lnX h p l
def SX (h : aH) : Prop := GX h ∧ KX h ∧ RX h ∧ WX h ∧ TX h
theorem GX.un {W : List Nat} {h h' : aH} (hX : GX h) (hO : OK h) (hO' : OK h') (g : un W h h') (h1 : 70 ∉ W) (h2 : 7901 ∉ W) : GX h' := by
  intro i x hx hi
  rw [arI_keep (a := 70) hO g (by decide) rfl (by decide) rfl (by decide) h1] at hx
  rw [fI_keep hO hO' g rfl h2] at hi
  exact hX i x hx hi
theorem KX.un {W : List Nat} {h h' : aH} (hX : KX h) (hO : OK h) (hO' : OK h') (g : un W h h') (h1 : 78 ∉ W) (h2 : 7904 ∉ W) : KX h' := by
  intro i x hx hi
  rw [arI_keep (a := 78) hO g (by decide) rfl (by decide) rfl (by decide) h1] at hx
  rw [fI_keep hO hO' g rfl h2] at hi
  exact hX i x hx hi
theorem RX.un {W : List Nat} {h h' : aH} (hX : RX h) (hO : OK h) (hO' : OK h') (g : un W h h') (h1 : 75 ∉ W) (h2 : 7904 ∉ W) : RX h' := by
  intro i x hx hi
  rw [arI_keep (a := 75) hO g (by decide) rfl (by decide) rfl (by decide) h1] at hx
  rw [fI_keep hO hO' g rfl h2] at hi
  exact hX i x hx hi
theorem WX.un {W : List Nat} {h h' : aH} (hX : WX h) (hO : OK h) (hO' : OK h') (g : un W h h') (h1 : 96 ∉ W) (h3 : 103 ∉ W) (h2 : 7938 ∉ W) : WX h' := by
  intro i k m hk hm hi
  rw [arI_keep (a := 96) hO g (by decide) rfl (by decide) rfl (by decide) h1] at hk
  rw [arI_keep (a := 103) hO g (by decide) rfl (by decide) rfl (by decide) h3] at hm
  rw [fI_keep hO hO' g rfl h2] at hi
  exact hX i k m hk hm hi
theorem TX.same {h h' : aH} (hX : TX h) (e1 : arI h' 83 = arI h 83) (e2 : arI h' 84 = arI h 84) (e3 : arI h' 85 = arI h 85) (e4 : arI h' 86 = arI h 86) (e5 : arI h' 87 = arI h 87) : TX h' := by
  intro p hp l hl
  rw [e3] at hl
  have e6 : frL h' p l = frL h p l := by
    unfold frL
    rw [e5]
  have := hX p hp l hl
  unfold lnX txs at this ⊢
  rw [e1, e2, e4, e5, e6]
  exact this
theorem TX.un {W : List Nat} {h h' : aH} (hX : TX h) (hO : OK h) (g : un W h h') (hw : ∀ k ∈ [83, 84, 85, 86, 87], k ∉ W) : TX h' :=
  hX.same (arI_keep (a := 83) hO g (by decide) rfl (by decide) rfl (by decide) (hw _ (by decide))) (arI_keep (a := 84) hO g (by decide) rfl (by decide) rfl (by decide) (hw _ (by decide))) (arI_keep (a := 85) hO g (by decide) rfl (by decide) rfl (by decide) (hw _ (by decide))) (arI_keep (a := 86) hO g (by decide) rfl (by decide) rfl (by decide) (hw _ (by decide))) (arI_keep (a := 87) hO g (by decide) rfl (by decide) rfl (by decide) (hw _ (by decide)))
def sxK : List Nat := [70, 75, 78, 96, 103, 83, 84, 85, 86, 87, 7901, 7904, 7938]
theorem SX.un {W : List Nat} {h h' : aH} (hX : SX h) (hO : OK h) (hO' : OK h') (g : un W h h') (hw : ∀ k ∈ sxK, k ∉ W) : SX h' :=
  ⟨hX.1.un hO hO' g (hw _ (by decide)) (hw _ (by decide)), hX.2.1.un hO hO' g (hw _ (by decide)) (hw _ (by decide)), hX.2.2.1.un hO hO' g (hw _ (by decide)) (hw _ (by decide)), hX.2.2.2.1.un hO hO' g (hw _ (by decide)) (hw _ (by decide)) (hw _ (by decide)), hX.2.2.2.2.un hO g (fun k hk => hw k ((show ∀ k ∈ [83, 84, 85, 86, 87], k ∈ sxK by decide) k hk))⟩
theorem SX.gx {h : aH} {xs : List Int32} {j x : Int32} (hX : SX h) (hc : h[70]? = some (.inr (0, .inl xs))) (hx : xs[j.toInt.toNat]? = some x) (hj : 0 ≤ j.toInt ∧ j.toInt < fI h 1) : 100 ≤ x.toInt := hX.1 j.toInt.toNat x (by rw [arI_of hc]; exact hx) (by omega)
theorem SX.kx {h : aH} {xs : List Int32} {j x : Int32} (hX : SX h) (hc : h[78]? = some (.inr (0, .inl xs))) (hx : xs[j.toInt.toNat]? = some x) (hj : 0 ≤ j.toInt ∧ j.toInt < fI h 4) : x.toInt < j.toInt := by
  have := hX.2.1 j.toInt.toNat x (by rw [arI_of hc]; exact hx) (by omega)
  omega
theorem SX.rx {h : aH} {xs : List Int32} {j x : Int32} (hX : SX h) (hc : h[75]? = some (.inr (0, .inl xs))) (hx : xs[j.toInt.toNat]? = some x) (hj : 0 ≤ j.toInt ∧ j.toInt < fI h 4) : 5 ≤ x.toInt := hX.2.2.1 j.toInt.toNat x (by rw [arI_of hc]; exact hx) (by omega)
theorem SX.wx {h : aH} {xs ys : List Int32} {j x y : Int32} (hX : SX h) (hc : h[96]? = some (.inr (0, .inl xs))) (hx : xs[j.toInt.toNat]? = some x) (hd : h[103]? = some (.inr (0, .inl ys))) (hy : ys[j.toInt.toNat]? = some y) (hj : 0 ≤ j.toInt ∧ j.toInt < fI h 38) (hk : x.toInt = 3) : 0 ≤ y.toInt ∧ y.toInt < j.toInt := by
  have := hX.2.2.2.1 j.toInt.toNat x y (by rw [arI_of hc]; exact hx) (by rw [arI_of hd]; exact hy) (by omega) hk
  omega
end SXX
