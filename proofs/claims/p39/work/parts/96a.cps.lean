/-! ONE PLACE MORE COPIED, by the cells -/
section CPS
theorem cpS130 {he hl h' : aH} {a kd kd' : Nat} {xs : List Int32} {p k k' j J v w : Int32} (g : cp (arI he a) (arI hl a) 1430 (130 * iN p) (iN k)) (hc : hl[a]? = some (.inr (kd, .inl xs))) (hd : h'[a]? = some (.inr (kd', .inl (xs.set J.toInt.toNat w)))) (hx : xs[j.toInt.toNat]? = some v) (hw : w = v) (hn : xs.length = 1560) (hp : 0 ≤ p.toInt ∧ p.toInt ≤ 10) (hk : 0 ≤ k.toInt ∧ k.toInt < 130) (e1 : j.toInt = 1430 + k.toInt) (e2 : J.toInt = 130 * p.toInt + k.toInt) (e3 : k'.toInt = k.toInt + 1) : cp (arI he a) (arI h' a) 1430 (130 * iN p) (iN k') := by
  rw [arI_of hc] at g
  rw [arI_of hd]
  exact g.s (by unfold iN; omega) (by unfold iN; omega) hn (by rw [show 1430 + iN k = j.toInt.toNat by unfold iN; omega]; exact hx) hw (by unfold iN; omega) (by unfold iN; omega)
theorem cpS61 {he hl h' : aH} {a kd kd' : Nat} {xs : List Int32} {p k k' j J v w : Int32} (g : cp (arI he a) (arI hl a) 671 (61 * iN p) (iN k)) (hc : hl[a]? = some (.inr (kd, .inl xs))) (hd : h'[a]? = some (.inr (kd', .inl (xs.set J.toInt.toNat w)))) (hx : xs[j.toInt.toNat]? = some v) (hw : w = v) (hn : xs.length = 732) (hp : 0 ≤ p.toInt ∧ p.toInt ≤ 10) (hk : 0 ≤ k.toInt ∧ k.toInt < 61) (e1 : j.toInt = 671 + k.toInt) (e2 : J.toInt = 61 * p.toInt + k.toInt) (e3 : k'.toInt = k.toInt + 1) : cp (arI he a) (arI h' a) 671 (61 * iN p) (iN k') := by
  rw [arI_of hc] at g
  rw [arI_of hd]
  exact g.s (by unfold iN; omega) (by unfold iN; omega) hn (by rw [show 671 + iN k = j.toInt.toNat by unfold iN; omega]; exact hx) hw (by unfold iN; omega) (by unfold iN; omega)
theorem vpb_eq {x : Int32} (h : -128 ≤ x.toInt ∧ x.toInt ≤ 127) : vp_nar .byte x = x := Int32.toInt_inj.mp (nar_vb h)
theorem vps_eq {x : Int32} (h : -32768 ≤ x.toInt ∧ x.toInt ≤ 32767) : vp_nar .short x = x := Int32.toInt_inj.mp (nar_vs h)
theorem iN_eq {i : Int} {x : Int32} (h : i = x.toInt) : i.toNat = iN x := by rw [h]; rfl
theorem iN_lt {x : Int32} {n : Nat} (h : 0 ≤ x.toInt ∧ x.toInt < (n : Int)) : iN x < n := by unfold iN; omega
theorem iN_ne {x : Int32} {i : Nat} (hn : i ≠ iN x) : x.toInt.toNat ≠ i := fun q => hn q.symm
end CPS
