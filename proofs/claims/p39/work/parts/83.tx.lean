/-! THE PILE: what a sound stretch of steps asks at each step -/
section TXW
def txr (h : aH) (i j n : Nat) : Prop := ∃ m, rns (seg (arI h 83) (arI h 84) i j) n = some m
theorem seg_cons {A B : List Int32} {i j : Nat} {a b : Int32} (ha : A[i]? = some a) (hb : B[i]? = some b) (hij : i < j) : seg A B i j = (a, b) :: seg A B (i + 1) j := by
  have hz : (A.zip B)[i]? = some (a, b) := by rw [List.getElem?_zip_eq_some]; exact ⟨ha, hb⟩
  obtain ⟨hl, he⟩ := List.getElem?_eq_some_iff.mp hz
  unfold seg
  rw [List.drop_eq_getElem_cons hl, he, show j - i = (j - (i + 1)) + 1 by omega, List.take_succ_cons]
theorem wk_step {W : List Nat} {h0 h : aH} {xs ys : List Int32} {k n a : Int32} {e : Nat} (hO0 : OK h0) (g : un W h0 h) (w3 : 83 ∉ W) (w4 : 84 ∉ W) (hc : h[83]? = some (.inr (1, .inl xs))) (hd : h[84]? = some (.inr (0, .inl ys))) (hl : ys.length = 1560) (hx : xs[k.toInt.toNat]? = some a) (hk0 : 0 ≤ k.toInt ∧ k.toInt < 1560) (ht : txr h0 (iN k) e (iN n)) (hk : iN k < e) :
    (a.toInt = 1 → ∀ k' n', k' = iN k + 1 → n' = iN n + 1 → txr h0 k' e n') ∧
    (a.toInt = 2 → ∀ k' n', k' = iN k + 1 → n' = iN n + 1 → txr h0 k' e n') ∧
    (a.toInt = 3 ∨ a.toInt = 4 → ∀ k' n', k' = iN k + 1 → n' = iN n → txr h0 k' e n') ∧
    (a.toInt ≠ 1 ∧ a.toInt ≠ 2 ∧ a.toInt ≠ 3 ∧ a.toInt ≠ 4 → ∀ k' n', k' = iN k + 1 → n' + 1 = iN n → txr h0 k' e n') ∧
    (∀ b, ys[k.toInt.toNat]? = some b → a.toInt = 2 → 0 ≤ b.toInt ∧ b.toInt ≤ 9) ∧
    (a.toInt = 3 ∨ a.toInt = 4 → 1 ≤ iN n) ∧ (a.toInt ≠ 1 ∧ a.toInt ≠ 2 ∧ a.toInt ≠ 3 ∧ a.toInt ≠ 4 → 2 ≤ iN n) := by
  have e3 : arI h0 83 = xs := by rw [← arI_keep (a := 83) hO0 g (by decide) rfl (by decide) rfl (by decide) w3, arI_of hc]
  have e4 : arI h0 84 = ys := by rw [← arI_keep (a := 84) hO0 g (by decide) rfl (by decide) rfl (by decide) w4, arI_of hd]
  have hb : ys[k.toInt.toNat]? = some (ys[k.toInt.toNat]'(by omega)) := List.getElem?_eq_getElem (by omega)
  generalize (ys[k.toInt.toNat]'(by omega)) = b at hb
  obtain ⟨m, hm⟩ := ht
  rw [e3, e4, seg_cons (show xs[iN k]? = some a from hx) (show ys[iN k]? = some b from hb) hk] at hm
  unfold txr
  rw [e3, e4]
  unfold rns stp at hm
  dsimp only at hm
  have fin : ∀ {k' n' : Nat}, k' = iN k + 1 → rns (seg xs ys (iN k + 1) e) n' = some m → ∃ m, rns (seg xs ys k' e) n' = some m := fun q r => ⟨m, by rw [q]; exact r⟩
  by_cases q1 : a.toInt = 1 ∨ (a.toInt = 2 ∧ 0 ≤ b.toInt ∧ b.toInt ≤ 9)
  · rw [if_pos q1] at hm
    refine ⟨fun _ k' n' h1 h2 => fin h1 (by rw [h2]; exact hm), fun _ k' n' h1 h2 => fin h1 (by rw [h2]; exact hm), fun q => by omega, fun q => by omega, fun b' hb' q => ?_, fun q => by omega, fun q => by omega⟩
    rw [hb] at hb'
    cases hb'
    omega
  · rw [if_neg q1] at hm
    by_cases q2 : a.toInt = 2
    · rw [if_pos q2] at hm
      cases hm
    · rw [if_neg q2] at hm
      by_cases q3 : a.toInt = 3 ∨ a.toInt = 4
      · rw [if_pos q3] at hm
        by_cases q4 : 1 ≤ iN n
        · rw [if_pos q4] at hm
          exact ⟨fun q => by omega, fun q => by omega, fun _ k' n' h1 h2 => fin h1 (by rw [h2]; exact hm), fun q => by omega, fun b' hb' q => by omega, fun _ => q4, fun q => by omega⟩
        · rw [if_neg q4] at hm
          cases hm
      · rw [if_neg q3] at hm
        by_cases q4 : 2 ≤ iN n
        · rw [if_pos q4] at hm
          exact ⟨fun q => by omega, fun q => by omega, fun q => by omega, fun _ k' n' h1 h2 => fin h1 (by rw [show n' = iN n - 1 by omega]; exact hm), fun b' hb' q => by omega, fun q => by omega, fun _ => q4⟩
        · rw [if_neg q4] at hm
          cases hm
theorem txs_keep {W : List Nat} {h h' : aH} {p i j : Nat} (hO : OK h) (g : un W h h') (w3 : 83 ∉ W) (w4 : 84 ∉ W) (ht : txs h p i j) : txs h' p i j := by
  unfold txs at ht ⊢
  rw [arI_keep (a := 83) hO g (by decide) rfl (by decide) rfl (by decide) w3, arI_keep (a := 84) hO g (by decide) rfl (by decide) rfl (by decide) w4]
  exact ht
/-- a line of a text, by what stands in the rows -/
theorem ln_at {W : List Nat} {h0 h : aH} {xs ys zs : List Int32} {p l te le m fst : Int32} (hX : TX h0) (hO0 : OK h0) (g : un W h0 h) (hw : ∀ k ∈ [83, 84, 85, 86, 87], k ∉ W) (hc : h[86]? = some (.inr (2, .inl xs))) (hd : h[87]? = some (.inr (2, .inl ys))) (he : h[85]? = some (.inr (0, .inl zs))) (hx : xs[l.toInt.toNat]? = some te) (hy : ys[l.toInt.toNat]? = some le) (hz : zs[p.toInt.toNat]? = some m) (hp : 0 ≤ p.toInt ∧ p.toInt ≤ 10) (hl : 61 * p.toInt ≤ l.toInt ∧ l.toInt < 61 * p.toInt + m.toInt) (hf : iN fst = frL h0 (iN p) (iN l - 61 * iN p)) (hr : 0 ≤ te.toInt ∧ 0 ≤ le.toInt ∧ 0 ≤ fst.toInt) :
    fst.toInt ≤ te.toInt ∧ te.toInt ≤ le.toInt ∧ le.toInt ≤ 130 ∧ (te.toInt ≠ fst.toInt → txs h0 (iN p) (iN fst) (iN te)) ∧ txs h0 (iN p) (iN te) (iN le) ∧ iN le = frL h0 (iN p) (iN l + 1 - 61 * iN p) := by
  have e6 : arI h0 86 = xs := by rw [← arI_keep (a := 86) hO0 g (by decide) rfl (by decide) rfl (by decide) (hw _ (by decide)), arI_of hc]
  have e7 : arI h0 87 = ys := by rw [← arI_keep (a := 87) hO0 g (by decide) rfl (by decide) rfl (by decide) (hw _ (by decide)), arI_of hd]
  have e5 : arI h0 85 = zs := by rw [← arI_keep (a := 85) hO0 g (by decide) rfl (by decide) rfl (by decide) (hw _ (by decide)), arI_of he]
  have el : 61 * iN p + (iN l - 61 * iN p) = iN l := by unfold iN; omega
  have ex : (arI h0 86).getD (61 * iN p + (iN l - 61 * iN p)) 0 = te := by
    rw [el, e6, List.getD_eq_getElem?_getD]
    unfold iN
    rw [hx]
    rfl
  have ey : (arI h0 87).getD (61 * iN p + (iN l - 61 * iN p)) 0 = le := by
    rw [el, e7, List.getD_eq_getElem?_getD]
    unfold iN
    rw [hy]
    rfl
  have em : (arI h0 85).getD (iN p) 0 = m := by
    rw [e5, List.getD_eq_getElem?_getD]
    unfold iN
    rw [hz]
    rfl
  have hln := hX (iN p) (by unfold iN; omega) (iN l - 61 * iN p) (by rw [em]; unfold iN; omega)
  unfold lnX at hln
  rw [ex, ey, ← hf] at hln
  obtain ⟨a1, a2, a3, a4, a5⟩ := hln
  unfold iN at a1 a2 a3
  refine ⟨by omega, by omega, by omega, fun q => a4 (by unfold iN; omega), a5, ?_⟩
  rw [show iN l + 1 - 61 * iN p = (iN l - 61 * iN p) + 1 by unfold iN at el ⊢; omega]
  show iN le = iN ((arI h0 87).getD (61 * iN p + (iN l - 61 * iN p)) 0)
  rw [ey]
end TXW
