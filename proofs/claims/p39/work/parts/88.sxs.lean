/-! A GREAT, A COMET, A WORD MORE: what holds beside the ranges holds on -/
section SXS
theorem set_at {xs : List Int32} {n i : Nat} {x y : Int32} (h : (xs.set n x)[i]? = some y) : (i = n ∧ y = x) ∨ (i ≠ n ∧ xs[i]? = some y) := by
  by_cases q : i = n
  · subst q
    obtain ⟨hl, he⟩ := List.getElem?_eq_some_iff.mp h
    rw [List.getElem_set_self] at he
    exact Or.inl ⟨rfl, he.symm⟩
  · rw [List.getElem?_set_ne (Ne.symm q)] at h
    exact Or.inr ⟨q, h⟩
theorem GX.push {h h' : aH} {xs : List Int32} {j x : Int32} {kd kd' : Nat} (hX : GX h) (hc : h[70]? = some (.inr (kd, .inl xs))) (hd : h'[70]? = some (.inr (kd', .inl (xs.set j.toInt.toNat x)))) (h1 : fI h 1 = j.toInt) (h2 : 0 ≤ j.toInt) (h3 : fI h' 1 = j.toInt + 1) (h4 : 100 ≤ x.toInt) : GX h' := by
  intro i y hy hi
  rw [arI_of hd] at hy
  rcases set_at hy with ⟨q, e⟩ | ⟨q, e⟩
  · rw [e]; exact h4
  · exact hX i y (by rw [arI_of hc]; exact e) (by omega)
theorem RX.push {h h' : aH} {xs : List Int32} {j x : Int32} {kd kd' : Nat} (hX : RX h) (hc : h[75]? = some (.inr (kd, .inl xs))) (hd : h'[75]? = some (.inr (kd', .inl (xs.set j.toInt.toNat x)))) (h1 : fI h 4 = j.toInt) (h2 : 0 ≤ j.toInt) (h3 : fI h' 4 = j.toInt + 1) (h4 : 5 ≤ x.toInt) : RX h' := by
  intro i y hy hi
  rw [arI_of hd] at hy
  rcases set_at hy with ⟨q, e⟩ | ⟨q, e⟩
  · rw [e]; exact h4
  · exact hX i y (by rw [arI_of hc]; exact e) (by omega)
theorem KX.push {h h' : aH} {xs : List Int32} {j x : Int32} {kd kd' : Nat} (hX : KX h) (hc : h[78]? = some (.inr (kd, .inl xs))) (hd : h'[78]? = some (.inr (kd', .inl (xs.set j.toInt.toNat x)))) (h1 : fI h 4 = j.toInt) (h2 : 0 ≤ j.toInt) (h3 : fI h' 4 = j.toInt + 1) (h4 : x.toInt < j.toInt) : KX h' := by
  intro i y hy hi
  rw [arI_of hd] at hy
  rcases set_at hy with ⟨q, e⟩ | ⟨q, e⟩
  · rw [e]; omega
  · exact hX i y (by rw [arI_of hc]; exact e) (by omega)
theorem WX.push {h h' : aH} {xs ys : List Int32} {j x y : Int32} {k1 k2 k3 k4 : Nat} (hX : WX h) (hc : h[96]? = some (.inr (k1, .inl xs))) (hd : h'[96]? = some (.inr (k2, .inl (xs.set j.toInt.toNat x)))) (he : h[103]? = some (.inr (k3, .inl ys))) (hf : h'[103]? = some (.inr (k4, .inl (ys.set j.toInt.toNat y)))) (h1 : fI h 38 = j.toInt) (h2 : 0 ≤ j.toInt) (h3 : fI h' 38 = j.toInt + 1) (h4 : x.toInt = 3 → 0 ≤ y.toInt ∧ y.toInt < j.toInt) : WX h' := by
  intro i a b ha hb hi hk
  rw [arI_of hd] at ha
  rw [arI_of hf] at hb
  rcases set_at ha with ⟨q, e⟩ | ⟨q, e⟩
  · rcases set_at hb with ⟨q', e'⟩ | ⟨q', e'⟩
    · subst e
      subst e'
      have := h4 hk
      omega
    · exact absurd q q'
  · rcases set_at hb with ⟨q', e'⟩ | ⟨q', e'⟩
    · exact absurd q' q
    · exact hX i a b (by rw [arI_of hc]; exact e) (by rw [arI_of he]; exact e') (by omega) hk
theorem GX.cong {h h' : aH} (hX : GX h) (e : h'[70]? = h[70]?) (f : h'[69]? = h[69]?) : GX h' := by
  intro i x hx hi
  refine hX i x ?_ ?_
  · unfold arI at hx ⊢
    rw [e] at hx
    exact hx
  · unfold fI at hi ⊢
    rw [f] at hi
    exact hi
end SXS
