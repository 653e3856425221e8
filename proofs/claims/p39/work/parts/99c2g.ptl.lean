/-! WHAT TIES words, reigns and pages of class and reference -/
section PTL
theorem arI_len {h : aH} {a n : Nat} (hO : OK h) (ha : a < 114) (ht : T0.getD a (999, 0) = (0, n)) : (arI h a).length = n := by
  obtain ⟨xs, hc, hn, he⟩ := hO.int (hO.fix a ha ht)
  rw [arI_of hc]
  exact hn
theorem gI_st {h h' : aH} {a n : Nat} {p v : Int32} {j : Int} (hO : OK h) (ha : a < 114) (ht : T0.getD a (999, 0) = (0, n)) (e : arI h' a = (arI h a).set p.toInt.toNat v) (hp : 0 ≤ p.toInt ∧ p.toInt < (n : Int)) (hj : 0 ≤ j) : (j = p.toInt → gI h' a j = v.toInt) ∧ (j ≠ p.toInt → gI h' a j = gI h a j) := by
  have hl := arI_len hO ha ht
  unfold gI
  rw [e]
  refine ⟨fun q => ?_, fun q => ?_⟩
  · rw [q, List.getD_eq_getElem?_getD, List.getElem?_set_self (by omega)]
    rfl
  · rw [List.getD_eq_getElem?_getD, List.getElem?_set_ne (by omega), ← List.getD_eq_getElem?_getD]
theorem gI_e {h h' : aH} {a : Nat} (e : arI h' a = arI h a) (j : Int) : gI h' a j = gI h a j := by unfold gI; rw [e]
theorem gL_e {h h' : aH} {a : Nat} (e : arJ h' a = arJ h a) (j : Int) : gL h' a j = gL h a j := by unfold gL; rw [e]
theorem rowJ_len {h : aH} (hO : OK h) {s : Int} (hs : 0 ≤ s ∧ s ≤ 5) : (arJ h (63 + s.toNat)).length = 60 := by
  rcases (show s = 0 ∨ s = 1 ∨ s = 2 ∨ s = 3 ∨ s = 4 ∨ s = 5 by omega) with q | q | q | q | q | q <;> rw [q]
  · exact arJ_len (a := 63) hO (by decide) rfl
  · exact arJ_len (a := 64) hO (by decide) rfl
  · exact arJ_len (a := 65) hO (by decide) rfl
  · exact arJ_len (a := 66) hO (by decide) rfl
  · exact arJ_len (a := 67) hO (by decide) rfl
  · exact arJ_len (a := 68) hO (by decide) rfl
def PGe (h : aH) (s : Int) : Prop := (gI h 58 s = 0 ∧ gI h 110 s = -1) ∨ (gI h 58 s = 1 ∧ 0 ≤ gI h 110 s ∧ gI h 59 s = gI h 110 s) ∨ (gI h 58 s = 2 ∧ (0 ≤ gI h 60 s ∧ gI h 60 s ≤ 4) ∧ gI h 110 s = -2 - gI h 60 s ∧ gI h 61 s = gI h 111 s ∧ ∀ k : Int, 0 ≤ k → k < 60 → gL h (63 + s.toNat) k = gL h 112 (60 * s + k))
def PT (h : aH) : Prop := ∀ s : Int, 0 ≤ s ∧ s ≤ 5 → PGe h s
def TRg (h : aH) : Prop := ∀ r : Int, 0 ≤ r ∧ r ≤ 19 → (gI h 17 r = -1 ↔ gI h 91 r = 0)
theorem PGe.c {h h' : aH} {s : Int} (g : PGe h s) (e1 : gI h' 58 s = gI h 58 s) (e2 : gI h' 59 s = gI h 59 s) (e3 : gI h' 60 s = gI h 60 s) (e4 : gI h' 61 s = gI h 61 s) (e5 : gI h' 110 s = gI h 110 s) (e6 : gI h' 111 s = gI h 111 s) (e7 : ∀ k : Int, 0 ≤ k → k < 60 → gL h' (63 + s.toNat) k = gL h (63 + s.toNat) k) (e8 : ∀ k : Int, 0 ≤ k → k < 60 → gL h' 112 (60 * s + k) = gL h 112 (60 * s + k)) : PGe h' s := by
  unfold PGe
  rw [e1, e2, e3, e4, e5, e6]
  rcases g with g | g | ⟨g1, g2, g3, g4, g5⟩
  · exact Or.inl g
  · exact Or.inr (Or.inl g)
  · exact Or.inr (Or.inr ⟨g1, g2, g3, g4, fun k h0 h1 => by rw [e7 k h0 h1, e8 k h0 h1]; exact g5 k h0 h1⟩)
/-- the class's pages, the reference's, stay -/
def KPc (h h' : aH) : Prop := (arI h' 58 = arI h 58 ∧ arI h' 59 = arI h 59 ∧ arI h' 60 = arI h 60 ∧ arI h' 61 = arI h 61) ∧ ∀ s : Int, 0 ≤ s ∧ s ≤ 5 → arJ h' (63 + s.toNat) = arJ h (63 + s.toNat)
def KPm (h h' : aH) : Prop := arI h' 110 = arI h 110 ∧ arI h' 111 = arI h 111 ∧ arJ h' 112 = arJ h 112
theorem KPc.rf {h : aH} : KPc h h := ⟨⟨rfl, rfl, rfl, rfl⟩, fun _ _ => rfl⟩
theorem KPm.rf {h : aH} : KPm h h := ⟨rfl, rfl, rfl⟩
theorem KPc.un {W : List Nat} {h h' : aH} (hO : OK h) (g : un W h h') (hw : ∀ a ∈ [58, 59, 60, 61, 63, 64, 65, 66, 67, 68], a ∉ W) : KPc h h' := by
  refine ⟨⟨arI_keep (kd := 0) (n := 6) hO g (by decide) rfl (by decide) rfl (by decide) (hw _ (by decide)), arI_keep (kd := 0) (n := 6) hO g (by decide) rfl (by decide) rfl (by decide) (hw _ (by decide)), arI_keep (kd := 0) (n := 6) hO g (by decide) rfl (by decide) rfl (by decide) (hw _ (by decide)), arI_keep (kd := 0) (n := 6) hO g (by decide) rfl (by decide) rfl (by decide) (hw _ (by decide))⟩, fun s hs => ?_⟩
  rcases (show s = 0 ∨ s = 1 ∨ s = 2 ∨ s = 3 ∨ s = 4 ∨ s = 5 by omega) with q | q | q | q | q | q <;> rw [q]
  · exact arJ_keep (a := 63) (n := 60) hO g (by decide) rfl (by decide) (by decide) (hw _ (by decide))
  · exact arJ_keep (a := 64) (n := 60) hO g (by decide) rfl (by decide) (by decide) (hw _ (by decide))
  · exact arJ_keep (a := 65) (n := 60) hO g (by decide) rfl (by decide) (by decide) (hw _ (by decide))
  · exact arJ_keep (a := 66) (n := 60) hO g (by decide) rfl (by decide) (by decide) (hw _ (by decide))
  · exact arJ_keep (a := 67) (n := 60) hO g (by decide) rfl (by decide) (by decide) (hw _ (by decide))
  · exact arJ_keep (a := 68) (n := 60) hO g (by decide) rfl (by decide) (by decide) (hw _ (by decide))
theorem KPm.un {W : List Nat} {h h' : aH} (hO : OK h) (g : un W h h') (hw : ∀ a ∈ [110, 111, 112], a ∉ W) : KPm h h' :=
  ⟨arI_keep (kd := 0) (n := 6) hO g (by decide) rfl (by decide) rfl (by decide) (hw _ (by decide)), arI_keep (kd := 0) (n := 6) hO g (by decide) rfl (by decide) rfl (by decide) (hw _ (by decide)), arJ_keep (a := 112) (n := 360) hO g (by decide) rfl (by decide) (by decide) (hw _ (by decide))⟩
theorem PT.k {h h1 : aH} (g : PT h) (c : KPc h h1) (m : KPm h h1) : PT h1 := fun s hs => (g s hs).c (gI_e c.1.1 s) (gI_e c.1.2.1 s) (gI_e c.1.2.2.1 s) (gI_e c.1.2.2.2 s) (gI_e m.1 s) (gI_e m.2.1 s) (fun k _ _ => gL_e (c.2 s hs) k) (fun k _ _ => gL_e m.2.2 _)
theorem KPm.w {h h' : aH} {a : Nat} {xs : List Int32} (w : wI h h' a xs) (h1 : a ≠ 110 ∧ a ≠ 111 ∧ a ≠ 112) : KPm h h' := ⟨w.oI h1.1.symm, w.oI h1.2.1.symm, w.oJ h1.2.2.symm⟩
/-- keep: the page holds nothing, or a word -/
theorem pt_keep0 {h h1 h2 : aH} {p w : Int32} (hO : OK h) (hO1 : OK h1) (g : PT h) (hp : 0 ≤ p.toInt ∧ p.toInt ≤ 5) (w1 : wI h h1 58 ((arI h 58).set p.toInt.toNat 0)) (w2 : wI h1 h2 110 ((arI h1 110).set p.toInt.toNat w)) (hw : w.toInt = -1) : PT h2 := by
  intro s hs
  have a1 := gI_st (j := s) hO (by decide) (n := 6) rfl w1.1 (by omega) hs.1
  have a2 := gI_st (j := s) hO1 (by decide) (n := 6) rfl w2.1 (by omega) hs.1
  have o : ∀ a, a ≠ 58 → a ≠ 110 → ∀ j, gI h2 a j = gI h a j := fun a q1 q2 j => (gI_e (w2.oI q2) j).trans (gI_e (w1.oI q1) j)
  have b1 := gI_e (w2.oI (b := 58) (by decide)) s
  have b2 := gI_e (w1.oI (b := 110) (by decide)) s
  by_cases q : s = p.toInt
  · exact Or.inl ⟨by rw [b1, a1.1 q]; rfl, by rw [a2.1 q]; exact hw⟩
  · exact (g s hs).c (by rw [b1, a1.2 q]) (o 59 (by decide) (by decide) s) (o 60 (by decide) (by decide) s) (o 61 (by decide) (by decide) s) (by rw [a2.2 q, b2]) (o 111 (by decide) (by decide) s) (fun k _ _ => (gL_e (w2.oJ (by omega)) k).trans (gL_e (w1.oJ (by omega)) k)) (fun k _ _ => (gL_e (w2.oJ (by decide)) _).trans (gL_e (w1.oJ (by decide)) _))
theorem pt_keep1 {h h1 h2 h3 : aH} {p w : Int32} (hO : OK h) (hO1 : OK h1) (hO2 : OK h2) (g : PT h) (hp : 0 ≤ p.toInt ∧ p.toInt ≤ 5) (w1 : wI h h1 58 ((arI h 58).set p.toInt.toNat 1)) (w2 : wI h1 h2 59 ((arI h1 59).set p.toInt.toNat w)) (w3 : wI h2 h3 110 ((arI h2 110).set p.toInt.toNat w)) (hw : 0 ≤ w.toInt) : PT h3 := by
  intro s hs
  have a1 := gI_st (j := s) hO (by decide) (n := 6) rfl w1.1 (by omega) hs.1
  have a2 := gI_st (j := s) hO1 (by decide) (n := 6) rfl w2.1 (by omega) hs.1
  have a3 := gI_st (j := s) hO2 (by decide) (n := 6) rfl w3.1 (by omega) hs.1
  have o : ∀ a, a ≠ 58 → a ≠ 59 → a ≠ 110 → ∀ j, gI h3 a j = gI h a j := fun a q1 q2 q3 j => (gI_e (w3.oI q3) j).trans ((gI_e (w2.oI q2) j).trans (gI_e (w1.oI q1) j))
  have b1 := (gI_e (w3.oI (b := 58) (by decide)) s).trans (gI_e (w2.oI (b := 58) (by decide)) s)
  have b2 := gI_e (w3.oI (b := 59) (by decide)) s
  have b3 := gI_e (w1.oI (b := 59) (by decide)) s
  have b4 := (gI_e (w2.oI (b := 110) (by decide)) s).trans (gI_e (w1.oI (b := 110) (by decide)) s)
  by_cases q : s = p.toInt
  · have c1 : gI h3 58 s = 1 := by rw [b1, a1.1 q]; rfl
    exact Or.inr (Or.inl ⟨c1, by rw [a3.1 q]; exact hw, by rw [b2, a2.1 q, a3.1 q]⟩)
  · exact (g s hs).c (by rw [b1, a1.2 q]) (by rw [b2, a2.2 q, b3]) (o 60 (by decide) (by decide) (by decide) s) (o 61 (by decide) (by decide) (by decide) s) (by rw [a3.2 q, b4]) (o 111 (by decide) (by decide) (by decide) s) (fun k _ _ => (gL_e (w3.oJ (by omega)) k).trans ((gL_e (w2.oJ (by omega)) k).trans (gL_e (w1.oJ (by omega)) k))) (fun k _ _ => (gL_e (w3.oJ (by decide)) _).trans ((gL_e (w2.oJ (by decide)) _).trans (gL_e (w1.oJ (by decide)) _)))
theorem gL_wne {h h' : aH} {a b : Nat} {xs : List Int64} (w : wJ h h' a xs) (hb : b ≠ a) (k : Int) : gL h' b k = gL h b k := gL_e (w.oJ hb) k
/-- put -/
theorem pt_put {h h1 h2 : aH} {p i : Int32} {v v' : Int64} (hO : OK h) (hO1 : OK h1) (g : PT h) (hp : 0 ≤ p.toInt ∧ p.toInt ≤ 5) (hi : 0 ≤ i.toInt ∧ i.toInt < 60) (w1 : wJ h h1 (63 + p.toInt.toNat) ((arJ h (63 + p.toInt.toNat)).set i.toInt.toNat v)) (w2 : wJ h1 h2 112 ((arJ h1 112).set (60 * p.toInt + i.toInt).toNat v')) (e : v = v') : PT h2 := by
  subst e
  intro s hs
  have l1 := rowJ_len hO hp
  have l2 := arJ_len (a := 112) (n := 360) hO1 (by decide) rfl
  have o : ∀ a, a < 63 ∨ 68 < a → a ≠ 112 → ∀ j, gI h2 a j = gI h a j := fun a q1 q2 j => (gI_e (w2.oI q2) j).trans (gI_e (w1.oI (by omega)) j)
  have d : ∀ k : Int, 0 ≤ k → k < 60 → gL h2 112 (60 * s + k) = if s = p.toInt ∧ k = i.toInt then v else gL h 112 (60 * s + k) := by
    intro k h0 h1'
    have e1 : gL h2 112 (60 * s + k) = if (60 * s + k).toNat = (60 * p.toInt + i.toInt).toNat then v else gL h1 112 (60 * s + k) := by
      unfold gL
      rw [w2.1, gD_set (by omega)]
    rw [e1, gL_wne w1 (by omega)]
    by_cases q : s = p.toInt ∧ k = i.toInt
    · rw [if_pos q, if_pos (by omega)]
    · rw [if_neg q, if_neg (by omega)]
  have c : ∀ k : Int, 0 ≤ k → k < 60 → gL h2 (63 + s.toNat) k = if s = p.toInt ∧ k = i.toInt then v else gL h (63 + s.toNat) k := by
    intro k h0 h1'
    rw [gL_wne w2 (by omega)]
    by_cases q : s = p.toInt
    · subst q
      have e1 : gL h1 (63 + p.toInt.toNat) k = if k.toNat = i.toInt.toNat then v else gL h (63 + p.toInt.toNat) k := by
        unfold gL
        rw [w1.1, gD_set (by omega)]
      rw [e1]
      by_cases q2 : k = i.toInt
      · rw [if_pos (by omega), if_pos ⟨rfl, q2⟩]
      · rw [if_neg (by omega), if_neg (fun z => q2 z.2)]
    · rw [if_neg (fun z => q z.1), gL_wne w1 (by omega)]
  have gs := g s hs
  unfold PGe at gs ⊢
  rw [o 58 (by omega) (by decide), o 59 (by omega) (by decide), o 60 (by omega) (by decide), o 61 (by omega) (by decide), o 110 (by omega) (by decide), o 111 (by omega) (by decide)]
  rcases gs with gs | gs | ⟨g1, g2, g3, g4, g5⟩
  · exact Or.inl gs
  · exact Or.inr (Or.inl gs)
  · exact Or.inr (Or.inr ⟨g1, g2, g3, g4, fun k h0 h1' => by rw [c k h0 h1', d k h0 h1', g5 k h0 h1']⟩)
/-- row -/
theorem pt_row {h a1 a2 a3 h1 b1 b2 h2 : aH} {p so n v : Int32} (hO : OK h) (hA1 : OK a1) (hA2 : OK a2) (hB : OK h1) (hB1 : OK b1) (g : PT h) (hp : 0 ≤ p.toInt ∧ p.toInt ≤ 5) (hs0 : 0 ≤ so.toInt ∧ so.toInt ≤ 4) (w1 : wI h a1 58 ((arI h 58).set p.toInt.toNat 2)) (w2 : wI a1 a2 60 ((arI a1 60).set p.toInt.toNat so)) (w3 : wI a2 a3 61 ((arI a2 61).set p.toInt.toNat n)) (w4 : wJ a3 h1 (63 + p.toInt.toNat) (List.replicate 60 0)) (m1 : wI h1 b1 110 ((arI h1 110).set p.toInt.toNat v)) (hv : v.toInt = -2 - so.toInt) (m2 : wI b1 b2 111 ((arI b1 111).set p.toInt.toNat n)) (m3 : ∀ b, b ≠ 112 → h2[b]? = b2[b]?) (m4 : zz (arJ b2 112) (arJ h2 112) (60 * p.toInt).toNat ((60 * p.toInt).toNat + 60)) : PT h2 := by
  intro s hs
  have x1 := gI_st (j := s) hO (by decide) (n := 6) rfl w1.1 (by omega) hs.1
  have x2 := gI_st (j := s) hA1 (by decide) (n := 6) rfl w2.1 (by omega) hs.1
  have x3 := gI_st (j := s) hA2 (by decide) (n := 6) rfl w3.1 (by omega) hs.1
  have x4 := gI_st (j := s) hB (by decide) (n := 6) rfl m1.1 (by omega) hs.1
  have x5 := gI_st (j := s) hB1 (by decide) (n := 6) rfl m2.1 (by omega) hs.1
  have mo : ∀ a, a ≠ 110 → a ≠ 111 → a ≠ 112 → arI h2 a = arI h1 a := fun a q1 q2 q3 => (arI_c (m3 a q3)).trans ((m2.oI q2).trans (m1.oI q1))
  have co : ∀ a, a ≠ 58 → a ≠ 60 → a ≠ 61 → (a < 63 ∨ 68 < a) → arI h1 a = arI h a := fun a q1 q2 q3 q4 => (w4.oI (by omega)).trans ((w3.oI q3).trans ((w2.oI q2).trans (w1.oI q1)))
  have y58 : gI h2 58 s = gI a1 58 s := gI_e ((mo 58 (by decide) (by decide) (by decide)).trans ((w4.oI (by omega)).trans ((w3.oI (by decide)).trans (w2.oI (by decide))))) s
  have y59 : gI h2 59 s = gI h 59 s := gI_e ((mo 59 (by decide) (by decide) (by decide)).trans (co 59 (by decide) (by decide) (by decide) (by omega))) s
  have y60 : gI h2 60 s = gI a2 60 s := gI_e ((mo 60 (by decide) (by decide) (by decide)).trans ((w4.oI (by omega)).trans (w3.oI (by decide)))) s
  have z60 : gI a1 60 s = gI h 60 s := gI_e (w1.oI (by decide)) s
  have y61 : gI h2 61 s = gI a3 61 s := gI_e ((mo 61 (by decide) (by decide) (by decide)).trans (w4.oI (by omega))) s
  have z61 : gI a2 61 s = gI h 61 s := gI_e ((w2.oI (by decide)).trans (w1.oI (by decide))) s
  have y110 : gI h2 110 s = gI b1 110 s := gI_e ((arI_c (m3 110 (by decide))).trans (m2.oI (by decide))) s
  have z110 : gI h1 110 s = gI h 110 s := gI_e (co 110 (by decide) (by decide) (by decide) (by omega)) s
  have y111 : gI h2 111 s = gI b2 111 s := gI_e (arI_c (m3 111 (by decide))) s
  have z111 : gI b1 111 s = gI h 111 s := gI_e ((m1.oI (by decide)).trans (co 111 (by decide) (by decide) (by decide) (by omega))) s
  have r2 : arJ h2 (63 + s.toNat) = arJ h1 (63 + s.toNat) := (arJ_c (m3 _ (by omega))).trans ((m2.oJ (by omega)).trans (m1.oJ (by omega)))
  have e2 : arJ b2 112 = arJ h 112 := (m2.oJ (by decide)).trans ((m1.oJ (by decide)).trans ((w4.oJ (by omega)).trans ((w3.oJ (by decide)).trans ((w2.oJ (by decide)).trans (w1.oJ (by decide))))))
  by_cases q : s = p.toInt
  · refine Or.inr (Or.inr ⟨by rw [y58, x1.1 q]; rfl, by rw [y60, x2.1 q]; exact hs0, by rw [y110, x4.1 q, y60, x2.1 q]; exact hv, by rw [y61, x3.1 q, y111, x5.1 q], fun k h0 h1' => ?_⟩)
    unfold gL
    rw [r2, q, w4.1, m4, if_pos (by omega), List.getD_eq_getElem?_getD, List.getElem?_replicate, if_pos (by omega)]
    rfl
  · refine (g s hs).c (by rw [y58, x1.2 q]) y59 (by rw [y60, x2.2 q, z60]) (by rw [y61, x3.2 q, z61]) (by rw [y110, x4.2 q, z110]) (by rw [y111, x5.2 q, z111]) (fun k _ _ => ?_) (fun k h0 h1' => ?_)
    · exact gL_e (r2.trans ((w4.oJ (by omega)).trans ((w3.oJ (by omega)).trans ((w2.oJ (by omega)).trans (w1.oJ (by omega)))))) k
    · unfold gL
      rw [m4, if_neg (by omega), e2]
/-- shift -/
theorem pt_shift {h h1 h2 : aH} {p i o j n : Int32} (hO : OK h) (g : PT h) (hp : 0 ≤ p.toInt ∧ p.toInt ≤ 5) (ho : 0 ≤ o.toInt ∧ o.toInt ≤ 5) (hb : 0 ≤ i.toInt ∧ 0 ≤ j.toInt ∧ 0 ≤ n.toInt ∧ i.toInt + n.toInt ≤ 60 ∧ j.toInt + n.toInt ≤ 60) (hr : gI h 58 p.toInt = 2) (w1 : wJ h h1 (63 + o.toInt.toNat) (cpL 0 (arJ h (63 + p.toInt.toNat)) (arJ h (63 + o.toInt.toNat)) i.toInt.toNat j.toInt.toNat n.toInt.toNat)) (m1 : ∀ b, b ≠ 112 → b ≠ 113 → h2[b]? = h1[b]?) (m2 : ∀ k : Nat, (arJ h2 112).getD k 0 = if (60 * o.toInt + j.toInt).toNat ≤ k ∧ k < (60 * o.toInt + j.toInt).toNat + n.toInt.toNat then (arJ h1 112).getD ((60 * p.toInt + i.toInt).toNat + (k - (60 * o.toInt + j.toInt).toNat)) 0 else (arJ h1 112).getD k 0) : PT h2 := by
  intro s hs
  have lo := rowJ_len hO ho
  have e112 : arJ h1 112 = arJ h 112 := w1.oJ (by omega)
  have oI : ∀ a, a ≠ 112 → a ≠ 113 → (a < 63 ∨ 68 < a) → ∀ x, gI h2 a x = gI h a x := fun a q1 q2 q3 x => (gI_e (arI_c (m1 a q1 q2)) x).trans (gI_e (w1.oI (by omega)) x)
  have r2 : arJ h2 (63 + s.toNat) = arJ h1 (63 + s.toNat) := arJ_c (m1 _ (by omega) (by omega))
  have d : ∀ k : Int, 0 ≤ k → k < 60 → gL h2 112 (60 * s + k) = if s = o.toInt ∧ j.toInt ≤ k ∧ k < j.toInt + n.toInt then gL h 112 (60 * p.toInt + (i.toInt + (k - j.toInt))) else gL h 112 (60 * s + k) := by
    intro k h0 h1'
    unfold gL
    rw [m2, e112]
    by_cases q : s = o.toInt ∧ j.toInt ≤ k ∧ k < j.toInt + n.toInt
    · rw [if_pos q, if_pos (by omega)]
      congr 1
      omega
    · rw [if_neg q, if_neg (by omega)]
  have c : ∀ k : Int, 0 ≤ k → k < 60 → gL h2 (63 + s.toNat) k = if s = o.toInt ∧ j.toInt ≤ k ∧ k < j.toInt + n.toInt then gL h (63 + p.toInt.toNat) (i.toInt + (k - j.toInt)) else gL h (63 + s.toNat) k := by
    intro k h0 h1'
    by_cases q : s = o.toInt
    · subst q
      have e1 : (arJ h1 (63 + o.toInt.toNat)).getD k.toNat 0 = if j.toInt.toNat ≤ k.toNat ∧ k.toNat < j.toInt.toNat + n.toInt.toNat then (arJ h (63 + p.toInt.toNat)).getD (i.toInt.toNat + (k.toNat - j.toInt.toNat)) 0 else (arJ h (63 + o.toInt.toNat)).getD k.toNat 0 := by
        rw [w1.1, List.getD_eq_getElem?_getD, cpL_at (by omega)]
        rfl
      unfold gL
      rw [r2, e1]
      by_cases q2 : j.toInt ≤ k ∧ k < j.toInt + n.toInt
      · rw [if_pos (by omega), if_pos ⟨rfl, q2⟩]
        congr 1
        omega
      · rw [if_neg (by omega), if_neg (fun z => q2 z.2)]
    · rw [if_neg (fun z => q z.1)]
      exact gL_e (r2.trans (w1.oJ (by omega))) k
  have gs := g s hs
  have gp := g p.toInt hp
  unfold PGe at gs gp ⊢
  rw [oI 58 (by decide) (by decide) (by omega), oI 59 (by decide) (by decide) (by omega), oI 60 (by decide) (by decide) (by omega), oI 61 (by decide) (by decide) (by omega), oI 110 (by decide) (by decide) (by omega), oI 111 (by decide) (by decide) (by omega)]
  rcases gs with gs | gs | ⟨g1, g2, g3, g4, g5⟩
  · exact Or.inl gs
  · exact Or.inr (Or.inl gs)
  · refine Or.inr (Or.inr ⟨g1, g2, g3, g4, fun k h0 h1' => ?_⟩)
    have gp5 : ∀ k : Int, 0 ≤ k → k < 60 → gL h (63 + p.toInt.toNat) k = gL h 112 (60 * p.toInt + k) := by
      rcases gp with gp | gp | ⟨_, _, _, _, gp⟩
      · omega
      · omega
      · exact gp
    rw [c k h0 h1', d k h0 h1']
    by_cases q : s = o.toInt ∧ j.toInt ≤ k ∧ k < j.toInt + n.toInt
    · rw [if_pos q, if_pos q, gp5 _ (by omega) (by omega)]
    · rw [if_neg q, if_neg q, g5 k h0 h1']
/-- reigns told -/
theorem tr_reign {h h1 h2 : aH} {r d v : Int32} (hO : OK h) (hO1 : OK h1) (g : TRg h) (hr : 0 ≤ r.toInt ∧ r.toInt ≤ 19) (hd : 0 ≤ d.toInt) (hv : v.toInt = 1 ∨ v.toInt = 2) (e1 : arI h1 17 = (arI h 17).set r.toInt.toNat d) (e2 : arI h1 91 = arI h 91) (e3 : arI h2 91 = (arI h1 91).set r.toInt.toNat v) (e4 : arI h2 17 = arI h1 17) : TRg h2 := by
  intro s hs
  have x1 := gI_st (j := s) hO (by decide) (n := 20) rfl e1 (by omega) hs.1
  have x2 := gI_st (j := s) hO1 (by decide) (n := 20) rfl e3 (by omega) hs.1
  have y1 := gI_e e4 s
  have y2 := gI_e e2 s
  have gs := g s hs
  by_cases q : s = r.toInt
  · rw [y1, x1.1 q, x2.1 q]
    omega
  · rw [y1, x1.2 q, x2.2 q, y2]
    exact gs
theorem TRg.k {h h1 : aH} (g : TRg h) (e1 : arI h1 17 = arI h 17) (e2 : arI h1 91 = arI h 91) : TRg h1 := fun r hr => by
  rw [gI_e e1 r, gI_e e2 r]
  exact g r hr
/-- a stretch of a page's row, on both sides -/
theorem gd_gm {h h1 : aH} {p i n w w' : Int} (g : PT h) (hp : 0 ≤ p ∧ p ≤ 5) (hO : OK h) (hr : gI h 58 p = 2) (m : KPm h h1) (hw : w = w') (j : Nat) : GD h p i n w j ↔ GM h1 p i n w' j := by
  have gp := g p hp
  have b := gI61 hO p
  rcases gp with gp | gp | ⟨g1, g2, g3, g4, g5⟩
  · omega
  · omega
  · have e : gI h1 111 p = gI h 61 p := (gI_e m.2.1 p).trans g4.symm
    have f : ∀ k : Int, 0 ≤ k → k < 60 → fl h (63 + p.toNat) k = fl h1 112 (60 * p + k) := fun k h0 h1' => by
      unfold fl
      rw [g5 k h0 h1', gL_e m.2.2]
    subst hw
    unfold GD GM
    rw [e]
    by_cases q : 0 ≤ i + 5 * (j : Int) ∧ i + 5 * (j : Int) + 5 ≤ gI h 61 p
    · have F : FOKd h (63 + p.toNat) (i + 5 * (j : Int)) ↔ FOKd h1 112 (60 * p + (i + 5 * (j : Int))) := by
        unfold FOKd
        rw [f _ (by omega) (by omega), f _ (by omega) (by omega), f _ (by omega) (by omega), f _ (by omega) (by omega), f _ (by omega) (by omega)]
        simp only [Int.add_assoc]
      rw [F]
    · exact ⟨fun z => absurd z.2.1 q, fun z => absurd z.2.1 q⟩
end PTL
