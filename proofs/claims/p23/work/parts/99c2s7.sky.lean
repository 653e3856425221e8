/-! THE SKY of the reference, on its passes; printed by program but for its head -/
section SKY7
/-- a comet's numbers are laid at one place -/
def C8 (h h' : aH) (n : Int) (p s nd rc w b pa bo : Int32) : Prop := arI h' 72 = (arI h 72).set n.toNat p ∧ arI h' 73 = (arI h 73).set n.toNat s ∧ arI h' 74 = (arI h 74).set n.toNat nd ∧ arI h' 75 = (arI h 75).set n.toNat rc ∧ arI h' 76 = (arI h 76).set n.toNat w ∧ arI h' 77 = (arI h 77).set n.toNat b ∧ arI h' 78 = (arI h 78).set n.toNat pa ∧ arI h' 79 = (arI h 79).set n.toNat bo
/-- the comets that are there stay -/
def KMs (m : Nat) (h h' : aH) : Prop := ∀ a : Nat, 72 ≤ a → a < m → ∀ i : Int, 0 ≤ i → i < fI h 4 → gI h' a i = gI h a i
theorem KMs.rf {m : Nat} {h : aH} : KMs m h h := fun _ _ _ _ _ _ => rfl
theorem KMs.tr {m : Nat} {a b c : aH} (g : KMs m a b) (k : KMs m b c) (l : fI a 4 ≤ fI b 4) : KMs m a c := fun x h0 h1 i i0 i1 => (k x h0 h1 i i0 (by omega)).trans (g x h0 h1 i i0 i1)
theorem KMs.le {m m' : Nat} {h h' : aH} (g : KMs m h h') (l : m' ≤ m) : KMs m' h h' := fun a h0 h1 => g a h0 (by omega)
theorem KMs.un {W : List Nat} {h h' : aH} (hO : OK h) (g : un W h h') (hw : ∀ a ∈ [72, 73, 74, 75, 76, 77, 78, 79], a ∉ W) : KMs 80 h h' := fun a h0 h1 i _ _ => by
  rcases (show a = 72 ∨ a = 73 ∨ a = 74 ∨ a = 75 ∨ a = 76 ∨ a = 77 ∨ a = 78 ∨ a = 79 by omega) with q | q | q | q | q | q | q | q <;> subst q <;> exact gI_keep (kd := 0) (n := 12) hO g i (by decide) rfl (by decide) rfl (by decide) (hw _ (by decide))
def NMz (h : aH) (c p s nd rc w b pa bo : Int) : Prop := gI h 72 c = p ∧ gI h 73 c = s ∧ gI h 74 c = nd ∧ gI h 75 c = rc ∧ gI h 76 c = w ∧ gI h 77 c = b ∧ gI h 78 c = pa ∧ gI h 79 c = bo
theorem C8.k {h h' : aH} {n : Int} {p s nd rc w b pa bo : Int32} (hO : OK h) (e : C8 h h' n p s nd rc w b pa bo) (hn : n = fI h 4) (h0 : 0 ≤ n ∧ n ≤ 11) : KMs 80 h h' ∧ NMz h' n p.toInt s.toInt nd.toInt rc.toInt w.toInt b.toInt pa.toInt bo.toInt := by
  subst hn
  obtain ⟨e1, e2, e3, e4, e5, e6, e7, e8⟩ := e
  have s1 := fun j (j0 : 0 ≤ j) => gI_sq (j := j) (am_l (a := 72) hO (by decide) rfl (by decide)) e1 (by omega) j0
  have s2 := fun j (j0 : 0 ≤ j) => gI_sq (j := j) (am_l (a := 73) hO (by decide) rfl (by decide)) e2 (by omega) j0
  have s3 := fun j (j0 : 0 ≤ j) => gI_sq (j := j) (am_l (a := 74) hO (by decide) rfl (by decide)) e3 (by omega) j0
  have s4 := fun j (j0 : 0 ≤ j) => gI_sq (j := j) (am_l (a := 75) hO (by decide) rfl (by decide)) e4 (by omega) j0
  have s5 := fun j (j0 : 0 ≤ j) => gI_sq (j := j) (am_l (a := 76) hO (by decide) rfl (by decide)) e5 (by omega) j0
  have s6 := fun j (j0 : 0 ≤ j) => gI_sq (j := j) (am_l (a := 77) hO (by decide) rfl (by decide)) e6 (by omega) j0
  have s7 := fun j (j0 : 0 ≤ j) => gI_sq (j := j) (am_l (a := 78) hO (by decide) rfl (by decide)) e7 (by omega) j0
  have s8 := fun j (j0 : 0 ≤ j) => gI_sq (j := j) (am_l (a := 79) hO (by decide) rfl (by decide)) e8 (by omega) j0
  refine ⟨fun a h0 h1 i i0 i1 => ?_, (s1 _ h0.1).1 (by omega), (s2 _ h0.1).1 (by omega), (s3 _ h0.1).1 (by omega), (s4 _ h0.1).1 (by omega), (s5 _ h0.1).1 (by omega), (s6 _ h0.1).1 (by omega), (s7 _ h0.1).1 (by omega), (s8 _ h0.1).1 (by omega)⟩
  rcases (show a = 72 ∨ a = 73 ∨ a = 74 ∨ a = 75 ∨ a = 76 ∨ a = 77 ∨ a = 78 ∨ a = 79 by omega) with q | q | q | q | q | q | q | q <;> subst q
  · exact (s1 i i0).2 (by omega)
  · exact (s2 i i0).2 (by omega)
  · exact (s3 i i0).2 (by omega)
  · exact (s4 i i0).2 (by omega)
  · exact (s5 i i0).2 (by omega)
  · exact (s6 i i0).2 (by omega)
  · exact (s7 i i0).2 (by omega)
  · exact (s8 i i0).2 (by omega)
theorem SKm.push {h h' : aH} {n p s nd rc w b pa bo : Int} (g : SKm h) (hn : n = fI h 4) (h0 : 0 ≤ n ∧ n ≤ 11) (k : KMs 80 h h') (z : NMz h' n p s nd rc w b pa bo) (c : CMr n p s nd rc w b pa) (o : ∀ a : Nat, a < 69 ∨ (69 < a ∧ a < 72) ∨ 79 < a → h'[a]? = h[a]?) (n4 : fI h' 4 = n + 1) (n1 : fI h' 1 = fI h 1) : SKm h' := by
  have e80 : gI h' 80 = gI h 80 := gI_f (o 80 (by omega))
  have e81 : gI h' 81 = gI h 81 := gI_f (o 81 (by omega))
  have nx : ∀ sp, NMh h' sp = NMh h sp := fun sp => by
    unfold NMh
    rw [gI_f (o 70 (by omega)), gI_f (o 71 (by omega)), n1]
  have er : ∀ c, rwM h' c = rwM h c := fun c => funext fun k => by
    unfold rwM
    rw [e80]
  obtain ⟨g1, g2, g3⟩ := g
  subst hn
  refine ⟨fun j j0 j1 => ?_, fun d d0 d1 => ?_, fun d d0 d1 => ?_⟩
  · rw [n1] at j1
    rw [gI_f (o 70 (by omega)), gI_f (o 71 (by omega))]
    exact g1 j j0 j1
  · rw [e81]
    by_cases q : d = fI h 4
    · refine ⟨?_, fun u => absurd (g3 d (by omega) (by omega)) u⟩
      obtain ⟨z1, z2, z3, z4, z5, z6, z7, z8⟩ := z
      unfold CMm
      rw [q, z1, z2, z3, z4, z5, z6, z7]
      exact c
    · have l : d < fI h 4 := by omega
      have r := g2 d d0 l
      unfold CMm at r ⊢
      rw [k 72 (by decide) (by decide) d d0 l, k 73 (by decide) (by decide) d d0 l, k 74 (by decide) (by decide) d d0 l, k 75 (by decide) (by decide) d d0 l, k 76 (by decide) (by decide) d d0 l, k 77 (by decide) (by decide) d d0 l, k 78 (by decide) (by decide) d d0 l, er, nx]
      exact r
  · rw [e81]
    exact g3 d (by omega) d1
theorem SKm.great {h h' : aH} {n : Int} {r p : Int32} (g : SKm h) (hO : OK h) (hn : n = fI h 1) (n0 : 0 ≤ n ∧ n ≤ 3) (hc : 0 ≤ fI h 4 ∧ fI h 4 ≤ 12) (e2 : arI h' 70 = (arI h 70).set n.toNat r) (e3 : arI h' 71 = (arI h 71).set n.toNat p) (hr : 100 ≤ r.toInt ∧ r.toInt ≤ 20000) (hp : 0 ≤ p.toInt ∧ p.toInt ≤ 60) (o : ∀ a : Nat, 72 ≤ a → a ≤ 78 → gI h' a = gI h a) (n4 : fI h' 4 = fI h 4) (n1 : fI h' 1 = n + 1) (z : ∀ c : Int, 0 ≤ c → c ≤ 11 → gI h' 81 c = 0) : SKm h' := by
  subst hn
  have s2 := fun j (j0 : 0 ≤ j) => gI_sq (j := j) (am_l (a := 70) hO (by decide) rfl (by decide)) e2 (by omega) j0
  have s3 := fun j (j0 : 0 ≤ j) => gI_sq (j := j) (am_l (a := 71) hO (by decide) rfl (by decide)) e3 (by omega) j0
  obtain ⟨g1, g2, g3⟩ := g
  refine ⟨fun j j0 j1 => ?_, fun d d0 d1 => ?_, fun d d0 d1 => ?_⟩
  · rw [n1] at j1
    by_cases q : j = fI h 1
    · rw [(s2 j j0).1 (by omega), (s3 j j0).1 (by omega)]
      exact ⟨hr, hp⟩
    · rw [(s2 j j0).2 (by omega), (s3 j j0).2 (by omega)]
      exact g1 j j0 (by omega)
  · rw [n4] at d1
    have r := (g2 d d0 d1).1
    unfold CMm at r ⊢
    rw [o 72 (by decide) (by decide), o 73 (by decide) (by decide), o 74 (by decide) (by decide), o 75 (by decide) (by decide), o 76 (by decide) (by decide), o 77 (by decide) (by decide), o 78 (by decide) (by decide)]
    exact ⟨r, fun u => absurd (z d d0 (by omega)) u⟩
  · rw [n4] at d0
    exact z d (by omega) d1
set_option maxRecDepth 20000 in
set_option maxHeartbeats 4000000 in
theorem sd_X12_passOf {d kc ks : Nat} {h0 : aH} {Q : Option aV → aH → Prop} (hO0 : OK h0) (hX0 : SX h0) (a1 : Int32) (b1 : 0 ≤ a1.toInt ∧ a1.toInt ≤ 11) (a2 : Int32) (b2 : -60 ≤ a2.toInt ∧ a2.toInt ≤ 60) (pre0 : SKm h0) (pre1 : a1.toInt < fI h0 4) (hQ : ∀ r h', (∃ x : Int32, r = some (.inl x) ∧ (retV (NMh h0 (gI h0 73 a1.toInt)) (gI h0 73 a1.toInt) (gI h0 72 a1.toInt) a2.toInt x.toInt ∧ -1 ≤ x.toInt ∧ x.toInt ≤ 999999)) → OK h' → un [80, 81] h0 h' → (SKm h') → Q r h') : uCall Mt (d + 4) 200 [(.inr (.inr (some 69))), (.inl a1), (.inl a2)] h0 kc ks Q := by
  have l_60 : ((60) : Int32).toInt = 60 := by decide
  have l_121 : ((121) : Int32).toInt = 121 := by decide
  refine uc_ink [some (.inr (.inr (some 69))), some (.inl a1), some (.inl a2)] mt_200 (Nat.le_of_ble_eq_true rfl) rfl ?_
  obtain ⟨fs1, hc2⟩ := hO0.mod
  obtain ⟨f3, p4, t5⟩ := mf_4 hO0 hc2
  have t6 := fI_of hc2 p4
  refine ur_ldA rfl rfl ?_
  refine ur_ldI rfl rfl ?_
  refine ur_inl rfl (rcv_of hc2) (Nat.le_of_ble_eq_true rfl) (Nat.le_of_ble_eq_true rfl) (sd_X12_findPasses hO0 hX0 _ (by show 0 ≤ a1.toInt ∧ a1.toInt ≤ 11; omega) pre0 (by omega) (fun w7 h11 hr8 hO11 hv11 hp9 hp10 => ?_))
  have hu11 := hv11
  subst hr8
  show uRun _ (uCall Mt _) _ 5 (_, [], _, _, _)
  refine ur_ldA rfl rfl ?_
  obtain ⟨fs12, hc13⟩ := hO11.mod
  refine ur_get rfl hc13 (mf_13 hO11 hc13) ?_
  refine ur_push rfl ?_
  refine ur_ldI rfl rfl ?_
  refine ur_binV rfl (fun x14 e15 => ?_)
  have z16 := any_r a1
  have t17 := ti_mulR e15 l_121 (by omega) (by omega)
  refine ur_push rfl ?_
  refine ur_binV rfl (fun x18 e19 => ?_)
  have z20 := any_r x14
  have t21 := ti_add e19 (by omega) (by omega)
  refine ur_ldI rfl rfl ?_
  refine ur_binV rfl (fun x22 e23 => ?_)
  have z24 := any_r x18
  have z25 := any_r a2
  have t26 := ti_add e23 (by omega) (by omega)
  obtain ⟨xs28, hc27, hn29, he30⟩ := hO11.int (hO11.fix 80 (by decide) rfl)
  refine ur_aldV rfl hc27 hn29 (by omega) (fun x31 hx32 => ?_)
  have t33 := gI_of (j := x22) hc27 hx32
  have t34 : -1 ≤ x31.toInt ∧ x31.toInt ≤ 999999 := he30 _ _ hx32
  obtain ⟨f35, p36, t37⟩ := mf_4 hO11 hc13
  have t38 := fI_of hc13 p36
  have t39 := fI_keep (k := 4) hO0 hO11 hv11 rfl (by decide)
  exact ur_ret rfl rfl (hQ _ _ ⟨_, rfl, ⟨(by have q := (hp9.2.1 a1.toInt (by omega) (by omega)).2 hp10; rw [show gI h11 73 a1.toInt = gI h0 73 a1.toInt from (gI_keep (a := 73) (kd := 0) (n := 12) hO0 hv11 _ (by decide) rfl (by decide) rfl (by decide) (by decide)), show gI h11 72 a1.toInt = gI h0 72 a1.toInt from (gI_keep (a := 72) (kd := 0) (n := 12) hO0 hv11 _ (by decide) rfl (by decide) rfl (by decide) (by decide)), show NMh h11 (gI h0 73 a1.toInt) = NMh h0 (gI h0 73 a1.toInt) from nxM_un hO0 hO11 hv11 (by decide) (by decide) (by decide) _] at q; exact ⟨_, q, (show gI h11 80 (121 * a1.toInt + 60 + a2.toInt) = x31.toInt by rw [show 121 * a1.toInt + 60 + a2.toInt = x22.toInt by omega]; exact t33)⟩), by omega⟩⟩ hO11 hu11 hp9)

set_option maxRecDepth 20000 in
set_option maxHeartbeats 4000000 in
theorem sd_X12_newComet {d kc ks : Nat} {h0 : aH} {Q : Option aV → aH → Prop} (hO0 : OK h0) (hX0 : SX h0) (a1 : Int32) (b1 : 0 ≤ a1.toInt ∧ a1.toInt ≤ 999999) (a2 : Int32) (a3 : Int32) (a4 : Int32) (b4 : 5 ≤ a4.toInt ∧ a4.toInt ≤ 99) (a5 : Int32) (a6 : Int32) (a7 : Int32) (b7 : -1 ≤ a7.toInt ∧ a7.toInt ≤ 11) (pre0 : SKm h0) (pre1 : fI h0 4 ≤ 11) (pre2 : a7.toInt < fI h0 4) (pre3 : CMr (fI h0 4) a1.toInt a2.toInt a3.toInt a4.toInt a5.toInt a6.toInt a7.toInt) (hQ : ∀ r h', (∃ x : Int32, r = some (.inl x) ∧ (x.toInt = fI h0 4)) → OK h' → un [72, 73, 74, 75, 76, 77, 78, 79, 7904] h0 h' → (fI h' 4 = fI h0 4 + 1) → (SX h') → (SKm h') → (C8 h0 h' (fI h0 4) a1 a2 a3 a4 a5 a6 a7 (-2000000000)) → Q r h') : uCall Mt (d + 1) 192 [(.inr (.inr (some 69))), (.inl a1), (.inl a2), (.inl a3), (.inl a4), (.inl a5), (.inl a6), (.inl a7)] h0 kc ks Q := by
  have l_m2000000000 : ((-2000000000) : Int32).toInt = -2000000000 := by decide
  have l_1 : ((1) : Int32).toInt = 1 := by decide
  refine uc_ink [some (.inr (.inr (some 69))), some (.inl a1), some (.inl a2), some (.inl a3), some (.inl a4), some (.inl a5), some (.inl a6), some (.inl a7)] mt_192 (Nat.le_of_ble_eq_true rfl) rfl ?_
  obtain ⟨fs1, hc2⟩ := hO0.mod
  obtain ⟨f3, p4, t5⟩ := mf_4 hO0 hc2
  have t6 := fI_of hc2 p4
  obtain ⟨xs8, hc7, hn9, he10⟩ := hO0.int (hO0.fix 75 (by decide) rfl)
  obtain ⟨xs12, hc11, hn13, he14⟩ := hO0.int (hO0.fix 78 (by decide) rfl)
  refine ur_ldA rfl rfl ?_
  refine ur_get rfl hc2 (mf_5 hO0 hc2) ?_
  refine ur_ldA rfl rfl ?_
  refine ur_get rfl hc2 p4 ?_
  refine ur_ldI rfl rfl ?_
  obtain ⟨xs16, hc15, hn17, he18⟩ := hO0.int (hO0.fix 72 (by decide) rfl)
  refine ur_astV (W := [72]) (m := 12) rfl hO0 hc15 (by decide) hn17 (by omega) (by show 0 ≤ a1.toInt ∧ a1.toInt ≤ 999999; omega) (Or.inr (Or.inr (wid_fix (by decide) (by decide)))) (fun h21 hO21 hv21 d19 hc20 => ?_)
  have hu21 : un [72, 73, 74, 75, 76, 77, 78, 79, 7904] h0 h21 := hv21.mono (by decide)
  have w22 : wI h0 h21 72 ((arI h0 72).set (f3 : Int32).toInt.toNat a1) := ⟨by rw [arI_of hc20, arI_of hc15], d19⟩
  refine ur_ldA rfl rfl ?_
  refine ur_get rfl ((d19 _ (by decide)).trans hc2) (mf_6 hO21 ((d19 _ (by decide)).trans hc2)) ?_
  refine ur_ldA rfl rfl ?_
  have t23 := fI_of ((d19 _ (by decide)).trans hc2) p4
  refine ur_get rfl ((d19 _ (by decide)).trans hc2) p4 ?_
  refine ur_ldI rfl rfl ?_
  obtain ⟨xs25, hc24, hn26, he27⟩ := hO21.int (hO21.fix 73 (by decide) rfl)
  refine ur_astV (W := [73]) (m := 12) rfl hO21 hc24 (by decide) hn26 (by omega) (any_r _) (Or.inr (Or.inr (wid_fix (by decide) (by decide)))) (fun h30 hO30 hv30 d28 hc29 => ?_)
  have hu30 : un [72, 73, 74, 75, 76, 77, 78, 79, 7904] h21 h30 := hv30.mono (by decide)
  have w31 : wI h21 h30 73 ((arI h21 73).set (f3 : Int32).toInt.toNat a2) := ⟨by rw [arI_of hc29, arI_of hc24], d28⟩
  refine ur_ldA rfl rfl ?_
  refine ur_get rfl ((d28 _ (by decide)).trans ((d19 _ (by decide)).trans hc2)) (mf_7 hO30 ((d28 _ (by decide)).trans ((d19 _ (by decide)).trans hc2))) ?_
  refine ur_ldA rfl rfl ?_
  have t32 := fI_of ((d28 _ (by decide)).trans ((d19 _ (by decide)).trans hc2)) p4
  refine ur_get rfl ((d28 _ (by decide)).trans ((d19 _ (by decide)).trans hc2)) p4 ?_
  refine ur_ldI rfl rfl ?_
  obtain ⟨xs34, hc33, hn35, he36⟩ := hO30.int (hO30.fix 74 (by decide) rfl)
  refine ur_astV (W := [74]) (m := 12) rfl hO30 hc33 (by decide) hn35 (by omega) (any_r _) (Or.inr (Or.inr (wid_fix (by decide) (by decide)))) (fun h39 hO39 hv39 d37 hc38 => ?_)
  have hu39 : un [72, 73, 74, 75, 76, 77, 78, 79, 7904] h30 h39 := hv39.mono (by decide)
  have w40 : wI h30 h39 74 ((arI h30 74).set (f3 : Int32).toInt.toNat a3) := ⟨by rw [arI_of hc38, arI_of hc33], d37⟩
  refine ur_ldA rfl rfl ?_
  have hc41 := ((d37 _ (by decide)).trans ((d28 _ (by decide)).trans ((d19 _ (by decide)).trans hc2)))
  refine ur_get rfl hc41 (mf_8 hO39 hc41) ?_
  refine ur_ldA rfl rfl ?_
  have t42 := fI_of hc41 p4
  refine ur_get rfl hc41 p4 ?_
  refine ur_ldI rfl rfl ?_
  refine ur_astV (W := [75]) (m := 12) rfl hO39 ((d37 _ (by decide)).trans ((d28 _ (by decide)).trans ((d19 _ (by decide)).trans hc7))) (by decide) hn9 (by omega) (by show 0 ≤ a4.toInt ∧ a4.toInt ≤ 99; omega) (Or.inr (Or.inr (wid_fix (by decide) (by decide)))) (fun h45 hO45 hv45 d43 hc44 => ?_)
  have hu45 : un [72, 73, 74, 75, 76, 77, 78, 79, 7904] h39 h45 := hv45.mono (by decide)
  have w46 : wI h39 h45 75 ((arI h39 75).set (f3 : Int32).toInt.toNat a4) := ⟨by rw [arI_of hc44, arI_of ((d37 _ (by decide)).trans ((d28 _ (by decide)).trans ((d19 _ (by decide)).trans hc7)))], d43⟩
  refine ur_ldA rfl rfl ?_
  refine ur_get rfl ((d43 _ (by decide)).trans hc41) (mf_9 hO45 ((d43 _ (by decide)).trans hc41)) ?_
  refine ur_ldA rfl rfl ?_
  have t47 := fI_of ((d43 _ (by decide)).trans hc41) p4
  refine ur_get rfl ((d43 _ (by decide)).trans hc41) p4 ?_
  refine ur_ldI rfl rfl ?_
  obtain ⟨xs49, hc48, hn50, he51⟩ := hO45.int (hO45.fix 76 (by decide) rfl)
  refine ur_astV (W := [76]) (m := 12) rfl hO45 hc48 (by decide) hn50 (by omega) (any_r _) (Or.inr (Or.inr (wid_fix (by decide) (by decide)))) (fun h54 hO54 hv54 d52 hc53 => ?_)
  have hu54 : un [72, 73, 74, 75, 76, 77, 78, 79, 7904] h45 h54 := hv54.mono (by decide)
  have w55 : wI h45 h54 76 ((arI h45 76).set (f3 : Int32).toInt.toNat a5) := ⟨by rw [arI_of hc53, arI_of hc48], d52⟩
  refine ur_ldA rfl rfl ?_
  refine ur_get rfl ((d52 _ (by decide)).trans ((d43 _ (by decide)).trans hc41)) (mf_10 hO54 ((d52 _ (by decide)).trans ((d43 _ (by decide)).trans hc41))) ?_
  refine ur_ldA rfl rfl ?_
  have t56 := fI_of ((d52 _ (by decide)).trans ((d43 _ (by decide)).trans hc41)) p4
  refine ur_get rfl ((d52 _ (by decide)).trans ((d43 _ (by decide)).trans hc41)) p4 ?_
  refine ur_ldI rfl rfl ?_
  obtain ⟨xs58, hc57, hn59, he60⟩ := hO54.int (hO54.fix 77 (by decide) rfl)
  refine ur_astV (W := [77]) (m := 12) rfl hO54 hc57 (by decide) hn59 (by omega) (any_r _) (Or.inr (Or.inr (wid_fix (by decide) (by decide)))) (fun h63 hO63 hv63 d61 hc62 => ?_)
  have hu63 : un [72, 73, 74, 75, 76, 77, 78, 79, 7904] h54 h63 := hv63.mono (by decide)
  have w64 : wI h54 h63 77 ((arI h54 77).set (f3 : Int32).toInt.toNat a6) := ⟨by rw [arI_of hc62, arI_of hc57], d61⟩
  refine ur_ldA rfl rfl ?_
  have hc65 := ((d61 _ (by decide)).trans ((d52 _ (by decide)).trans ((d43 _ (by decide)).trans hc41)))
  refine ur_get rfl hc65 (mf_11 hO63 hc65) ?_
  refine ur_ldA rfl rfl ?_
  have t66 := fI_of hc65 p4
  refine ur_get rfl hc65 p4 ?_
  refine ur_ldI rfl rfl ?_
  refine ur_astV (W := [78]) (m := 12) rfl hO63 ((d61 _ (by decide)).trans ((d52 _ (by decide)).trans ((d43 _ (by decide)).trans ((d37 _ (by decide)).trans ((d28 _ (by decide)).trans ((d19 _ (by decide)).trans hc11)))))) (by decide) hn13 (by omega) (by show -1 ≤ a7.toInt ∧ a7.toInt ≤ 11; omega) (Or.inr (Or.inr (wid_fix (by decide) (by decide)))) (fun h69 hO69 hv69 d67 hc68 => ?_)
  have hu69 : un [72, 73, 74, 75, 76, 77, 78, 79, 7904] h63 h69 := hv69.mono (by decide)
  have w70 : wI h63 h69 78 ((arI h63 78).set (f3 : Int32).toInt.toNat a7) := ⟨by rw [arI_of hc68, arI_of ((d61 _ (by decide)).trans ((d52 _ (by decide)).trans ((d43 _ (by decide)).trans ((d37 _ (by decide)).trans ((d28 _ (by decide)).trans ((d19 _ (by decide)).trans hc11))))))], d67⟩
  refine ur_ldA rfl rfl ?_
  refine ur_get rfl ((d67 _ (by decide)).trans hc65) (mf_12 hO69 ((d67 _ (by decide)).trans hc65)) ?_
  refine ur_ldA rfl rfl ?_
  have t71 := fI_of ((d67 _ (by decide)).trans hc65) p4
  refine ur_get rfl ((d67 _ (by decide)).trans hc65) p4 ?_
  refine ur_push rfl ?_
  obtain ⟨xs73, hc72, hn74, he75⟩ := hO69.int (hO69.fix 79 (by decide) rfl)
  refine ur_astV (W := [79]) (m := 12) rfl hO69 hc72 (by decide) hn74 (by omega) (any_r _) (Or.inr (Or.inr (wid_fix (by decide) (by decide)))) (fun h78 hO78 hv78 d76 hc77 => ?_)
  have hu78 : un [72, 73, 74, 75, 76, 77, 78, 79, 7904] h69 h78 := hv78.mono (by decide)
  have w79 : wI h69 h78 79 ((arI h69 79).set (f3 : Int32).toInt.toNat (-2000000000)) := ⟨by rw [arI_of hc77, arI_of hc72], d76⟩
  refine ur_ldA rfl rfl ?_
  refine ur_dup rfl rfl ?_
  have t80 := fI_of ((d76 _ (by decide)).trans ((d67 _ (by decide)).trans hc65)) p4
  refine ur_get rfl ((d76 _ (by decide)).trans ((d67 _ (by decide)).trans hc65)) p4 ?_
  refine ur_push rfl ?_
  refine ur_binV rfl (fun x81 e82 => ?_)
  have z83 := any_r f3
  have t84 := ti_add e82 (by omega) (by omega)
  refine ur_putM (W := [7904]) rfl hO78 ((d76 _ (by decide)).trans ((d67 _ (by decide)).trans hc65)) (by decide) rfl (ms_4 (hO78.msh ((d76 _ (by decide)).trans ((d67 _ (by decide)).trans hc65))) (show 0 ≤ x81.toInt ∧ x81.toInt ≤ 12 by omega)) (Or.inr (by decide)) (fun h86 hO86 hv86 d85 hc87 => ?_)
  have hu86 : un [72, 73, 74, 75, 76, 77, 78, 79, 7904] h78 h86 := hv86.mono (by decide)
  have t88 := fI_of hc87 (gs_eq p4)
  refine ur_ldA rfl rfl ?_
  refine ur_get rfl hc87 (gs_eq p4) ?_
  refine ur_push rfl ?_
  refine ur_binV rfl (fun x89 e90 => ?_)
  have z91 := any_r x81
  have t92 := ti_sub e90 (by omega) (by omega)
  have C93 : C8 h0 h86 (fI h0 4) a1 a2 a3 a4 a5 a6 a7 (-2000000000) := ⟨(((arI_c (d85 72 (by decide))).trans ((arI_c (d76 72 (by decide))).trans ((arI_c (d67 72 (by decide))).trans ((arI_c (d61 72 (by decide))).trans ((arI_c (d52 72 (by decide))).trans ((arI_c (d43 72 (by decide))).trans ((arI_c (d37 72 (by decide))).trans (arI_c (d28 72 (by decide)))))))))).trans (w22.1.trans (by rw [show arI h0 72 = arI h0 72 from rfl, show (f3 : Int32).toInt.toNat = (fI h0 4).toNat from congrArg Int.toNat (show (f3 : Int32).toInt = fI h0 4 by omega)]))), (((arI_c (d85 73 (by decide))).trans ((arI_c (d76 73 (by decide))).trans ((arI_c (d67 73 (by decide))).trans ((arI_c (d61 73 (by decide))).trans ((arI_c (d52 73 (by decide))).trans ((arI_c (d43 73 (by decide))).trans (arI_c (d37 73 (by decide))))))))).trans (w31.1.trans (by rw [show arI h21 73 = arI h0 73 from (arI_c (d19 73 (by decide))), show (f3 : Int32).toInt.toNat = (fI h0 4).toNat from congrArg Int.toNat (show (f3 : Int32).toInt = fI h0 4 by omega)]))), (((arI_c (d85 74 (by decide))).trans ((arI_c (d76 74 (by decide))).trans ((arI_c (d67 74 (by decide))).trans ((arI_c (d61 74 (by decide))).trans ((arI_c (d52 74 (by decide))).trans (arI_c (d43 74 (by decide)))))))).trans (w40.1.trans (by rw [show arI h30 74 = arI h0 74 from ((arI_c (d28 74 (by decide))).trans (arI_c (d19 74 (by decide)))), show (f3 : Int32).toInt.toNat = (fI h0 4).toNat from congrArg Int.toNat (show (f3 : Int32).toInt = fI h0 4 by omega)]))), (((arI_c (d85 75 (by decide))).trans ((arI_c (d76 75 (by decide))).trans ((arI_c (d67 75 (by decide))).trans ((arI_c (d61 75 (by decide))).trans (arI_c (d52 75 (by decide))))))).trans (w46.1.trans (by rw [show arI h39 75 = arI h0 75 from ((arI_c (d37 75 (by decide))).trans ((arI_c (d28 75 (by decide))).trans (arI_c (d19 75 (by decide))))), show (f3 : Int32).toInt.toNat = (fI h0 4).toNat from congrArg Int.toNat (show (f3 : Int32).toInt = fI h0 4 by omega)]))), (((arI_c (d85 76 (by decide))).trans ((arI_c (d76 76 (by decide))).trans ((arI_c (d67 76 (by decide))).trans (arI_c (d61 76 (by decide)))))).trans (w55.1.trans (by rw [show arI h45 76 = arI h0 76 from ((arI_c (d43 76 (by decide))).trans ((arI_c (d37 76 (by decide))).trans ((arI_c (d28 76 (by decide))).trans (arI_c (d19 76 (by decide)))))), show (f3 : Int32).toInt.toNat = (fI h0 4).toNat from congrArg Int.toNat (show (f3 : Int32).toInt = fI h0 4 by omega)]))), (((arI_c (d85 77 (by decide))).trans ((arI_c (d76 77 (by decide))).trans (arI_c (d67 77 (by decide))))).trans (w64.1.trans (by rw [show arI h54 77 = arI h0 77 from ((arI_c (d52 77 (by decide))).trans ((arI_c (d43 77 (by decide))).trans ((arI_c (d37 77 (by decide))).trans ((arI_c (d28 77 (by decide))).trans (arI_c (d19 77 (by decide))))))), show (f3 : Int32).toInt.toNat = (fI h0 4).toNat from congrArg Int.toNat (show (f3 : Int32).toInt = fI h0 4 by omega)]))), (((arI_c (d85 78 (by decide))).trans (arI_c (d76 78 (by decide)))).trans (w70.1.trans (by rw [show arI h63 78 = arI h0 78 from ((arI_c (d61 78 (by decide))).trans ((arI_c (d52 78 (by decide))).trans ((arI_c (d43 78 (by decide))).trans ((arI_c (d37 78 (by decide))).trans ((arI_c (d28 78 (by decide))).trans (arI_c (d19 78 (by decide)))))))), show (f3 : Int32).toInt.toNat = (fI h0 4).toNat from congrArg Int.toNat (show (f3 : Int32).toInt = fI h0 4 by omega)]))), ((arI_c (d85 79 (by decide))).trans (w79.1.trans (by rw [show arI h69 79 = arI h0 79 from ((arI_c (d67 79 (by decide))).trans ((arI_c (d61 79 (by decide))).trans ((arI_c (d52 79 (by decide))).trans ((arI_c (d43 79 (by decide))).trans ((arI_c (d37 79 (by decide))).trans ((arI_c (d28 79 (by decide))).trans (arI_c (d19 79 (by decide))))))))), show (f3 : Int32).toInt.toNat = (fI h0 4).toNat from congrArg Int.toNat (show (f3 : Int32).toInt = fI h0 4 by omega)])))⟩
  have K94 := C93.k hO0 rfl (by omega)
  exact ur_ret rfl rfl (hQ _ _ ⟨_, rfl, by omega⟩ hO86 (hu21.tr (hu30.tr (hu39.tr (hu45.tr (hu54.tr (hu63.tr (hu69.tr (hu78.tr hu86)))))))) (by omega) ⟨hX0.1.un hO0 hO86 (hu21.tr (hu30.tr (hu39.tr (hu45.tr (hu54.tr (hu63.tr (hu69.tr (hu78.tr hu86)))))))) (by decide) (by decide), KX.push (j := f3) (x := a7) hX0.2.1 hc11 ((d85 _ (by decide)).trans ((d76 _ (by decide)).trans hc68)) (by omega) (by omega) (by omega) (by omega), RX.push (j := f3) (x := a4) hX0.2.2.1 hc7 ((d85 _ (by decide)).trans ((d76 _ (by decide)).trans ((d67 _ (by decide)).trans ((d61 _ (by decide)).trans ((d52 _ (by decide)).trans hc44))))) (by omega) (by omega) (by omega) (by omega), hX0.2.2.2.1.un hO0 hO86 (hu21.tr (hu30.tr (hu39.tr (hu45.tr (hu54.tr (hu63.tr (hu69.tr (hu78.tr hu86)))))))) (by decide) (by decide) (by decide), hX0.2.2.2.2.un hO0 (hu21.tr (hu30.tr (hu39.tr (hu45.tr (hu54.tr (hu63.tr (hu69.tr (hu78.tr hu86)))))))) (by decide)⟩ (SKm.push pre0 rfl (by omega) K94.1 K94.2 pre3 (fun a q => ((d85 a (by omega)).trans ((d76 a (by omega)).trans ((d67 a (by omega)).trans ((d61 a (by omega)).trans ((d52 a (by omega)).trans ((d43 a (by omega)).trans ((d37 a (by omega)).trans ((d28 a (by omega)).trans (d19 a (by omega))))))))))) (by omega) (fI_keep (k := 1) hO0 hO86 (hu21.tr (hu30.tr (hu39.tr (hu45.tr (hu54.tr (hu63.tr (hu69.tr (hu78.tr hu86)))))))) rfl (by decide))) C93)

set_option maxRecDepth 20000 in
set_option maxHeartbeats 4000000 in
theorem sd_X12_comet {d kc ks : Nat} {h0 : aH} {Q : Option aV → aH → Prop} (hO0 : OK h0) (hX0 : SX h0) (a1 : Int32) (a2 : Int32) (a3 : Int32) (a4 : Int32) (pre0 : SKm h0) (hQ : ∀ r h', (∃ x : Int32, r = some (.inl x) ∧ (¬ (((0 ≤ a1.toInt ∧ a1.toInt ≤ 999999) ∧ (200 ≤ a2.toInt ∧ a2.toInt ≤ 40000) ∧ (0 ≤ a3.toInt ∧ a3.toInt ≤ 199999) ∧ (a3.toInt % 100000) / 100 ≤ 359 ∧ 5 ≤ a3.toInt % 100 ∧ (0 ≤ a4.toInt ∧ a4.toInt ≤ 9))) ∧ x.toInt = -1 ∧ fI h' 4 = fI h0 4 ∨ (((0 ≤ a1.toInt ∧ a1.toInt ≤ 999999) ∧ (200 ≤ a2.toInt ∧ a2.toInt ≤ 40000) ∧ (0 ≤ a3.toInt ∧ a3.toInt ≤ 199999) ∧ (a3.toInt % 100000) / 100 ≤ 359 ∧ 5 ≤ a3.toInt % 100 ∧ (0 ≤ a4.toInt ∧ a4.toInt ≤ 9))) ∧ 12 ≤ fI h0 4 ∧ x.toInt = -3 ∧ fI h' 4 = fI h0 4 ∨ (((0 ≤ a1.toInt ∧ a1.toInt ≤ 999999) ∧ (200 ≤ a2.toInt ∧ a2.toInt ≤ 40000) ∧ (0 ≤ a3.toInt ∧ a3.toInt ≤ 199999) ∧ (a3.toInt % 100000) / 100 ≤ 359 ∧ 5 ≤ a3.toInt % 100 ∧ (0 ≤ a4.toInt ∧ a4.toInt ≤ 9))) ∧ fI h0 4 < 12 ∧ x.toInt = fI h0 4 + 0 ∧ fI h' 4 = fI h0 4 + 1)) → OK h' → un [72, 73, 74, 75, 76, 77, 78, 79, 7904] h0 h' → (fI h' 4 ≤ fI h0 4 + 1) → (SX h') → (SKm h') → (KMs 80 h0 h') → (imG (fI h' 4 = fI h0 4 + 1) (NMz h' (fI h0 4) a1.toInt a2.toInt ((a3.toInt % 100000) / 100) (a3.toInt % 100) ((if 100000 ≤ a3.toInt then -1 else 1)) a4.toInt (-1) (-2000000000))) → Q r h') : uCall Mt (d + 3) 193 [(.inr (.inr (some 69))), (.inl a1), (.inl a2), (.inl a3), (.inl a4)] h0 kc ks Q := by
  have l_m3 : ((-3) : Int32).toInt = -3 := by decide
  have l_m1 : ((-1) : Int32).toInt = -1 := by decide
  have l_0 : ((0) : Int32).toInt = 0 := by decide
  have l_1 : ((1) : Int32).toInt = 1 := by decide
  have l_5 : ((5) : Int32).toInt = 5 := by decide
  have l_9 : ((9) : Int32).toInt = 9 := by decide
  have l_12 : ((12) : Int32).toInt = 12 := by decide
  have l_99 : ((99) : Int32).toInt = 99 := by decide
  have l_100 : ((100) : Int32).toInt = 100 := by decide
  have l_200 : ((200) : Int32).toInt = 200 := by decide
  have l_359 : ((359) : Int32).toInt = 359 := by decide
  have l_40000 : ((40000) : Int32).toInt = 40000 := by decide
  have l_100000 : ((100000) : Int32).toInt = 100000 := by decide
  have l_199999 : ((199999) : Int32).toInt = 199999 := by decide
  have l_999999 : ((999999) : Int32).toInt = 999999 := by decide
  refine uc_ink [some (.inr (.inr (some 69))), some (.inl a1), some (.inl a2), some (.inl a3), some (.inl a4), none] mt_193 (Nat.le_of_ble_eq_true rfl) rfl ?_
  obtain ⟨fs1, hc2⟩ := hO0.mod
  obtain ⟨f3, p4, t5⟩ := mf_4 hO0 hc2
  have t6 := fI_of hc2 p4
  refine ur_ldI rfl rfl ?_
  refine ur_push rfl ?_
  refine ur_divV rfl (by decide) (fun x7 e8 => ?_)
  have z9 := any_r a3
  have t10 : 0 ≤ a3.toInt → x7.toInt = a3.toInt % 100000 := fun q => ti_rem e8 l_100000 (by decide) q
  refine ur_svIk [some (.inr (.inr (some 69))), some (.inl a1), some (.inl a2), some (.inl a3), some (.inl a4), some (.inl x7)] rfl rfl ?_
  refine ur_ldI rfl rfl ?_
  refine ur_callv rfl rfl (Nat.le_of_ble_eq_true rfl) (Nat.le_of_ble_eq_true rfl) rfl (sq_isDay _ _) ?_
  refine ur_eqB rfl (fun c13 => ?_) (fun c13 => ?_)
  · have t14 := wi_noL c13 l_0 l_999999
    refine ur_push rfl ?_
    exact ur_ret rfl rfl (hQ _ _ ⟨_, rfl, Or.inl ⟨fun q => by omega, by omega, by omega⟩⟩ hO0 un.rf (by omega) hX0 pre0 KMs.rf (fun q => by exfalso; omega))
  · have t15 := wi_toL c13 l_0 l_999999
    refine ur_ldI rfl rfl ?_
    refine ur_push rfl ?_
    refine ur_push rfl ?_
    refine ur_callv rfl rfl (Nat.le_of_ble_eq_true rfl) (Nat.le_of_ble_eq_true rfl) rfl (sp_in _ _ _ _ _) ?_
    refine ur_eqB rfl (fun c18 => ?_) (fun c18 => ?_)
    · have t19 := wi_noL c18 l_200 l_40000
      refine ur_push rfl ?_
      exact ur_ret rfl rfl (hQ _ _ ⟨_, rfl, Or.inl ⟨fun q => by omega, by omega, by omega⟩⟩ hO0 un.rf (by omega) hX0 pre0 KMs.rf (fun q => by exfalso; omega))
    · have t20 := wi_toL c18 l_200 l_40000
      refine ur_ldI rfl rfl ?_
      refine ur_push rfl ?_
      refine ur_push rfl ?_
      refine ur_callv rfl rfl (Nat.le_of_ble_eq_true rfl) (Nat.le_of_ble_eq_true rfl) rfl (sp_in _ _ _ _ _) ?_
      refine ur_eqB rfl (fun c23 => ?_) (fun c23 => ?_)
      · have t24 := wi_noL c23 l_0 l_199999
        refine ur_push rfl ?_
        exact ur_ret rfl rfl (hQ _ _ ⟨_, rfl, Or.inl ⟨fun q => by omega, by omega, by omega⟩⟩ hO0 un.rf (by omega) hX0 pre0 KMs.rf (fun q => by exfalso; omega))
      · have t25 := wi_toL c23 l_0 l_199999
        refine ur_ldI rfl rfl ?_
        refine ur_push rfl ?_
        refine ur_divV rfl (by decide) (fun x26 e27 => ?_)
        have z28 := any_r x7
        have t29 : 0 ≤ x7.toInt → x26.toInt = x7.toInt / 100 := fun q => ti_div e27 l_100 (by decide) q
        refine ur_push rfl ?_
        refine ur_if2 rfl (fun c30 => ?_) (fun c30 => ?_)
        · have t31 := lt_to c30
          replace t10 := t10 (by omega)
          replace t29 := t29 (by omega)
          refine ur_push rfl ?_
          exact ur_ret rfl rfl (hQ _ _ ⟨_, rfl, Or.inl ⟨fun q => by omega, by omega, by omega⟩⟩ hO0 un.rf (by omega) hX0 pre0 KMs.rf (fun q => by exfalso; omega))
        · have t32 := lt_no c30
          replace t10 := t10 (by omega)
          replace t29 := t29 (by omega)
          refine ur_ldI rfl rfl ?_
          refine ur_push rfl ?_
          refine ur_divV rfl (by decide) (fun x33 e34 => ?_)
          have t35 := ti_rem e34 l_100 (by decide) (by omega)
          refine ur_push rfl ?_
          refine ur_push rfl ?_
          refine ur_callv rfl rfl (Nat.le_of_ble_eq_true rfl) (Nat.le_of_ble_eq_true rfl) rfl (sp_in _ _ _ _ _) ?_
          refine ur_eqB rfl (fun c38 => ?_) (fun c38 => ?_)
          · have t39 := wi_noL c38 l_5 l_99
            refine ur_push rfl ?_
            exact ur_ret rfl rfl (hQ _ _ ⟨_, rfl, Or.inl ⟨fun q => by omega, by omega, by omega⟩⟩ hO0 un.rf (by omega) hX0 pre0 KMs.rf (fun q => by exfalso; omega))
          · have t40 := wi_toL c38 l_5 l_99
            refine ur_ldI rfl rfl ?_
            refine ur_push rfl ?_
            refine ur_push rfl ?_
            refine ur_callv rfl rfl (Nat.le_of_ble_eq_true rfl) (Nat.le_of_ble_eq_true rfl) rfl (sp_in _ _ _ _ _) ?_
            refine ur_neB rfl (fun c43 => ?_) (fun c43 => ?_)
            · have t44 := wi_toL c43 l_0 l_9
              refine ur_ldA rfl rfl ?_
              refine ur_get rfl hc2 p4 ?_
              refine ur_push rfl ?_
              refine ur_if2 rfl (fun c45 => ?_) (fun c45 => ?_)
              · have t46 := ne_to c45
                refine ur_ldA rfl rfl ?_
                refine ur_ldI rfl rfl ?_
                refine ur_ldI rfl rfl ?_
                refine ur_ldI rfl rfl ?_
                refine ur_push rfl ?_
                refine ur_divV rfl (by decide) (fun x47 e48 => ?_)
                have t49 := ti_div e48 l_100 (by decide) (by omega)
                refine ur_ldI rfl rfl ?_
                refine ur_push rfl ?_
                refine ur_divV rfl (by decide) (fun x50 e51 => ?_)
                have t52 := ti_rem e51 l_100 (by decide) (by omega)
                refine ur_ldI rfl rfl ?_
                refine ur_push rfl ?_
                refine ur_if2 rfl (fun c53 => ?_) (fun c53 => ?_)
                · have t54 := lt_to c53
                  refine ur_push rfl ?_
                  refine ur_ldI rfl rfl ?_
                  refine ur_push rfl ?_
                  refine ur_inl rfl (rcv_of hc2) (Nat.le_of_ble_eq_true rfl) (Nat.le_of_ble_eq_true rfl) (sd_X12_newComet hO0 hX0 _ (by show 0 ≤ a1.toInt ∧ a1.toInt ≤ 999999; omega) _ _ _ (by show 5 ≤ x50.toInt ∧ x50.toInt ≤ 99; omega) _ _ _ (by show -1 ≤ ((-1) : Int32).toInt ∧ ((-1) : Int32).toInt ≤ 11; omega) pre0 (by omega) (by omega) (by unfold CMr; omega) (fun w55 h61 hr56 hO61 hv61 hp57 hp58 hp59 hp60 => ?_))
                  have hu61 := hv61
                  obtain ⟨x62, rfl, t63⟩ := hr56
                  show uRun _ (uCall Mt _) _ 115 (_, [(.inl x62)], _, _, _)
                  obtain ⟨fs64, hc65⟩ := hO61.mod
                  obtain ⟨f66, p67, t68⟩ := mf_4 hO61 hc65
                  have t69 := fI_of hc65 p67
                  exact ur_ret rfl rfl (hQ _ _ ⟨_, rfl, Or.inr (Or.inr ⟨⟨by omega, by omega, by omega, by omega, by omega, by omega⟩, by omega, by omega, by omega⟩)⟩ hO61 hu61 (by omega) hp58 hp59 (hp60.k hO0 rfl (by omega)).1 (fun _ => (by obtain ⟨z1, z2, z3, z4, z5, z6, z7, z8⟩ := (hp60.k hO0 rfl (by omega)).2; exact ⟨z1.trans rfl, z2.trans rfl, z3.trans (by omega), z4.trans (by omega), z5.trans ((show (1 : Int32).toInt = 1 by decide).trans (if_neg (by omega)).symm), z6.trans rfl, z7.trans (by decide), z8.trans (by decide)⟩)))
                · have t70 := lt_no c53
                  refine ur_push rfl ?_
                  refine ur_go rfl ?_
                  refine ur_ldI rfl rfl ?_
                  refine ur_push rfl ?_
                  refine ur_inl rfl (rcv_of hc2) (Nat.le_of_ble_eq_true rfl) (Nat.le_of_ble_eq_true rfl) (sd_X12_newComet hO0 hX0 _ (by show 0 ≤ a1.toInt ∧ a1.toInt ≤ 999999; omega) _ _ _ (by show 5 ≤ x50.toInt ∧ x50.toInt ≤ 99; omega) _ _ _ (by show -1 ≤ ((-1) : Int32).toInt ∧ ((-1) : Int32).toInt ≤ 11; omega) pre0 (by omega) (by omega) (by unfold CMr; omega) (fun w71 h77 hr72 hO77 hv77 hp73 hp74 hp75 hp76 => ?_))
                  have hu77 := hv77
                  obtain ⟨x78, rfl, t79⟩ := hr72
                  show uRun _ (uCall Mt _) _ 115 (_, [(.inl x78)], _, _, _)
                  obtain ⟨fs80, hc81⟩ := hO77.mod
                  obtain ⟨f82, p83, t84⟩ := mf_4 hO77 hc81
                  have t85 := fI_of hc81 p83
                  exact ur_ret rfl rfl (hQ _ _ ⟨_, rfl, Or.inr (Or.inr ⟨⟨by omega, by omega, by omega, by omega, by omega, by omega⟩, by omega, by omega, by omega⟩)⟩ hO77 hu77 (by omega) hp74 hp75 (hp76.k hO0 rfl (by omega)).1 (fun _ => (by obtain ⟨z1, z2, z3, z4, z5, z6, z7, z8⟩ := (hp76.k hO0 rfl (by omega)).2; exact ⟨z1.trans rfl, z2.trans rfl, z3.trans (by omega), z4.trans (by omega), z5.trans ((show ((-1) : Int32).toInt = -1 by decide).trans (if_pos (by omega)).symm), z6.trans rfl, z7.trans (by decide), z8.trans (by decide)⟩)))
              · have t86 := ne_no c45
                refine ur_push rfl ?_
                exact ur_ret rfl rfl (hQ _ _ ⟨_, rfl, Or.inr (Or.inl ⟨⟨by omega, by omega, by omega, by omega, by omega, by omega⟩, by omega, by omega, by omega⟩)⟩ hO0 un.rf (by omega) hX0 pre0 KMs.rf (fun q => by exfalso; omega))
            · have t87 := wi_noL c43 l_0 l_9
              refine ur_push rfl ?_
              exact ur_ret rfl rfl (hQ _ _ ⟨_, rfl, Or.inl ⟨fun q => by omega, by omega, by omega⟩⟩ hO0 un.rf (by omega) hX0 pre0 KMs.rf (fun q => by exfalso; omega))

set_option maxRecDepth 20000 in
set_option maxHeartbeats 4000000 in
theorem se_X12_great {d kc ks : Nat} {h0 : aH} {Q : Option aV → aH → Prop} (hO0 : OK h0) (hX0 : SX h0) (a1 : Int32) (a2 : Int32) (pre0 : SKm h0) (hQ : ∀ r h', (∃ x : Int32, r = some (.inl x) ∧ (¬ (((100 ≤ a1.toInt ∧ a1.toInt ≤ 20000) ∧ (0 ≤ a2.toInt ∧ a2.toInt ≤ 60))) ∧ x.toInt = -1 ∧ fI h' 1 = fI h0 1 ∨ (((100 ≤ a1.toInt ∧ a1.toInt ≤ 20000) ∧ (0 ≤ a2.toInt ∧ a2.toInt ≤ 60))) ∧ 4 ≤ fI h0 1 ∧ x.toInt = -3 ∧ fI h' 1 = fI h0 1 ∨ (((100 ≤ a1.toInt ∧ a1.toInt ≤ 20000) ∧ (0 ≤ a2.toInt ∧ a2.toInt ≤ 60))) ∧ fI h0 1 < 4 ∧ x.toInt = fI h0 1 + 0 ∧ fI h' 1 = fI h0 1 + 1)) → OK h' → un [70, 71, 81, 7901] h0 h' → (SX h') → (SKm h') → (imG (fI h' 1 = fI h0 1 + 1) (arI h' 70 = (arI h0 70).set (fI h0 1).toNat a1 ∧ arI h' 71 = (arI h0 71).set (fI h0 1).toNat a2) ∧ imG (fI h' 1 = fI h0 1) (h' = h0)) → Q r h') : uCall Mt (d + 2) 191 [(.inr (.inr (some 69))), (.inl a1), (.inl a2)] h0 kc ks Q := by
  have l_m3 : ((-3) : Int32).toInt = -3 := by decide
  have l_m1 : ((-1) : Int32).toInt = -1 := by decide
  have l_0 : ((0) : Int32).toInt = 0 := by decide
  have l_1 : ((1) : Int32).toInt = 1 := by decide
  have l_4 : ((4) : Int32).toInt = 4 := by decide
  have l_12 : ((12) : Int32).toInt = 12 := by decide
  have l_60 : ((60) : Int32).toInt = 60 := by decide
  have l_100 : ((100) : Int32).toInt = 100 := by decide
  have l_20000 : ((20000) : Int32).toInt = 20000 := by decide
  refine uc_ink [some (.inr (.inr (some 69))), some (.inl a1), some (.inl a2), none] mt_191 (Nat.le_of_ble_eq_true rfl) rfl ?_
  obtain ⟨fs1, hc2⟩ := hO0.mod
  obtain ⟨f3, p4, t5⟩ := mf_1 hO0 hc2
  have t6 := fI_of hc2 p4
  obtain ⟨f7, p8, t9⟩ := mf_4 hO0 hc2
  have t10 := fI_of hc2 p8
  refine ur_ldI rfl rfl ?_
  refine ur_push rfl ?_
  refine ur_push rfl ?_
  refine ur_callv rfl rfl (Nat.le_of_ble_eq_true rfl) (Nat.le_of_ble_eq_true rfl) rfl (sp_in _ _ _ _ _) ?_
  refine ur_eqB rfl (fun c13 => ?_) (fun c13 => ?_)
  · have t14 := wi_noL c13 l_100 l_20000
    refine ur_push rfl ?_
    exact ur_ret rfl rfl (hQ _ _ ⟨_, rfl, Or.inl ⟨by omega, by omega, by omega⟩⟩ hO0 un.rf hX0 pre0 ⟨fun q => by exfalso; omega, fun _ => rfl⟩)
  · have t15 := wi_toL c13 l_100 l_20000
    refine ur_ldI rfl rfl ?_
    refine ur_push rfl ?_
    refine ur_push rfl ?_
    refine ur_callv rfl rfl (Nat.le_of_ble_eq_true rfl) (Nat.le_of_ble_eq_true rfl) rfl (sp_in _ _ _ _ _) ?_
    refine ur_neB rfl (fun c18 => ?_) (fun c18 => ?_)
    · have t19 := wi_toL c18 l_0 l_60
      refine ur_ldA rfl rfl ?_
      refine ur_get rfl hc2 p4 ?_
      refine ur_push rfl ?_
      refine ur_if2 rfl (fun c20 => ?_) (fun c20 => ?_)
      · have t21 := ne_to c20
        refine ur_ldA rfl rfl ?_
        refine ur_get rfl hc2 (mf_2 hO0 hc2) ?_
        refine ur_ldA rfl rfl ?_
        refine ur_get rfl hc2 p4 ?_
        refine ur_ldI rfl rfl ?_
        obtain ⟨xs23, hc22, hn24, he25⟩ := hO0.int (hO0.fix 70 (by decide) rfl)
        refine ur_astV (W := [70]) (m := 4) rfl hO0 hc22 (by decide) hn24 (by omega) (any_r _) (Or.inr (Or.inr (wid_fix (by decide) (by decide)))) (fun h28 hO28 hv28 d26 hc27 => ?_)
        have hu28 : un [70, 71, 81, 7901] h0 h28 := hv28.mono (by decide)
        have w29 : wI h0 h28 70 ((arI h0 70).set (f3 : Int32).toInt.toNat a1) := ⟨by rw [arI_of hc27, arI_of hc22], d26⟩
        refine ur_ldA rfl rfl ?_
        refine ur_get rfl ((d26 _ (by decide)).trans hc2) (mf_3 hO28 ((d26 _ (by decide)).trans hc2)) ?_
        refine ur_ldA rfl rfl ?_
        have t30 := fI_of ((d26 _ (by decide)).trans hc2) p4
        refine ur_get rfl ((d26 _ (by decide)).trans hc2) p4 ?_
        refine ur_ldI rfl rfl ?_
        obtain ⟨xs32, hc31, hn33, he34⟩ := hO28.int (hO28.fix 71 (by decide) rfl)
        refine ur_astV (W := [71]) (m := 4) rfl hO28 hc31 (by decide) hn33 (by omega) (by show 0 ≤ a2.toInt ∧ a2.toInt ≤ 60; omega) (Or.inr (Or.inr (wid_fix (by decide) (by decide)))) (fun h37 hO37 hv37 d35 hc36 => ?_)
        have hu37 : un [70, 71, 81, 7901] h28 h37 := hv37.mono (by decide)
        have w38 : wI h28 h37 71 ((arI h28 71).set (f3 : Int32).toInt.toNat a2) := ⟨by rw [arI_of hc36, arI_of hc31], d35⟩
        refine ur_ldA rfl rfl ?_
        refine ur_dup rfl rfl ?_
        have t39 := fI_of ((d35 _ (by decide)).trans ((d26 _ (by decide)).trans hc2)) p4
        refine ur_get rfl ((d35 _ (by decide)).trans ((d26 _ (by decide)).trans hc2)) p4 ?_
        refine ur_push rfl ?_
        refine ur_binV rfl (fun x40 e41 => ?_)
        have z42 := any_r f3
        have t43 := ti_add e41 (by omega) (by omega)
        refine ur_putM (W := [7901]) rfl hO37 ((d35 _ (by decide)).trans ((d26 _ (by decide)).trans hc2)) (by decide) rfl (ms_1 (hO37.msh ((d35 _ (by decide)).trans ((d26 _ (by decide)).trans hc2))) (show 0 ≤ x40.toInt ∧ x40.toInt ≤ 4 by omega)) (Or.inr (by decide)) (fun h45 hO45 hv45 d44 hc46 => ?_)
        have hu45 : un [70, 71, 81, 7901] h37 h45 := hv45.mono (by decide)
        have t47 := fI_of hc46 (gs_eq p4)
        have t48 := fI_of hc46 (gs_ne p8 (by decide))
        refine ur_push rfl ?_
        refine ur_svIk [some (.inr (.inr (some 69))), some (.inl a1), some (.inl a2), some (.inl 0)] rfl rfl ?_
        have L50 : ∀ (m51 : Nat) (x49 : Int32) (h53 : aH) , OK h53 → un [70, 71, 81, 7901] h45 h53 → ((0 ≤ x49.toInt ∧ x49.toInt ≤ 12) ∧ fI h53 1 = fI h0 1 + 1) → (GX h53) → ((∀ b : Nat, b ≠ 81 → h53[b]? = h45[b]?) ∧ ∀ c : Int, 0 ≤ c → c < x49.toInt → gI h53 81 c = 0) → ((13 - x49.toInt).toNat) < m51 → uRun oX12_great (uCall Mt (d + 1)) Q 67 ([some (.inr (.inr (some 69))), some (.inl a1), some (.inl a2), some (.inl x49)], [], h53, kc, ks) := by
          intro m51
          induction m51 with
          | zero => intro x49 h53 hO53 hu53 iv56 px54 px55 mm57; omega
          | succ m51 ih52 =>
            intro x49 h53 hO53 hu53 iv56 px54 px55 mm57
            obtain ⟨fs58, hc59⟩ := hO53.mod
            obtain ⟨f60, p61, t62⟩ := mf_1 hO53 hc59
            have t63 := fI_of hc59 p61
            refine ur_ldI rfl rfl ?_
            refine ur_push rfl ?_
            refine ur_if2 rfl (fun c64 => ?_) (fun c64 => ?_)
            · have t65 := le_to c64
              refine ur_ldA rfl rfl ?_
              refine ur_get rfl hc59 p61 ?_
              refine ur_push rfl ?_
              refine ur_binV rfl (fun x66 e67 => ?_)
              have z68 := any_r f60
              have t69 := ti_sub e67 (by omega) (by omega)
              obtain ⟨f70, p71, t72⟩ := mf_4 hO53 hc59
              have t73 := fI_of hc59 p71
              have a74 : arI h53 70 = (arI h0 70).set (fI h0 1).toNat a1 := (((arI_c (px55.1 70 (by decide))).trans ((arI_c (d44 70 (by decide))).trans (arI_c (d35 70 (by decide))))).trans (w29.1.trans (by rw [show arI h0 70 = arI h0 70 from rfl, show (f3 : Int32).toInt.toNat = (fI h0 1).toNat from congrArg Int.toNat (show (f3 : Int32).toInt = fI h0 1 by omega)])))
              have a75 : arI h53 71 = (arI h0 71).set (fI h0 1).toNat a2 := (((arI_c (px55.1 71 (by decide))).trans (arI_c (d44 71 (by decide)))).trans (w38.1.trans (by rw [show arI h28 71 = arI h0 71 from (arI_c (d26 71 (by decide))), show (f3 : Int32).toInt.toNat = (fI h0 1).toNat from congrArg Int.toNat (show (f3 : Int32).toInt = fI h0 1 by omega)])))
              exact ur_ret rfl rfl (hQ _ _ ⟨_, rfl, Or.inr (Or.inr ⟨by omega, by omega, by omega, by omega⟩)⟩ hO53 (hu28.tr (hu37.tr (hu45.tr hu53))) ⟨px54, hX0.2.1.un hO0 hO53 (hu28.tr (hu37.tr (hu45.tr hu53))) (by decide) (by decide), hX0.2.2.1.un hO0 hO53 (hu28.tr (hu37.tr (hu45.tr hu53))) (by decide) (by decide), hX0.2.2.2.1.un hO0 hO53 (hu28.tr (hu37.tr (hu45.tr hu53))) (by decide) (by decide) (by decide), hX0.2.2.2.2.un hO0 (hu28.tr (hu37.tr (hu45.tr hu53))) (by decide)⟩ (SKm.great pre0 hO0 rfl (by omega) (by omega) a74 a75 (by omega) (by omega) (fun a a0 a1 => gI_f ((px55.1 a (by omega)).trans ((d44 a (by omega)).trans ((d35 a (by omega)).trans (d26 a (by omega)))))) (fI_keep (k := 4) hO0 hO53 (hu28.tr (hu37.tr (hu45.tr hu53))) rfl (by decide)) (by omega) (fun c c0 c1 => px55.2 c c0 (by omega))) ⟨fun _ => ⟨a74, a75⟩, fun q => by exfalso; omega⟩)
            · have t76 := le_no c64
              refine ur_ldA rfl rfl ?_
              refine ur_get rfl hc59 (mf_14 hO53 hc59) ?_
              refine ur_ldI rfl rfl ?_
              refine ur_push rfl ?_
              obtain ⟨xs78, hc77, hn79, he80⟩ := hO53.boo (hO53.fix 81 (by decide) rfl)
              refine ur_astV (W := [81]) (m := 12) rfl hO53 hc77 (by decide) hn79 (by omega) (any_r _) (Or.inr (Or.inr (wid_fix (by decide) (by decide)))) (fun h83 hO83 hv83 d81 hc82 => ?_)
              have hu83 : un [70, 71, 81, 7901] h53 h83 := hv83.mono (by decide)
              have w84 : wI h53 h83 81 ((arI h53 81).set (x49 : Int32).toInt.toNat 0) := ⟨by rw [arI_of hc82, arI_of hc77, nb_0], d81⟩
              refine ur_incV (fun z => [some (.inr (.inr (some 69))), some (.inl a1), some (.inl a2), some (.inl z)]) rfl rfl (fun _ => rfl) (fun x85 e86 => ?_)
              have z87 := any_r x49
              have t88 := ti_add e86 (by omega) (by omega)
              refine ur_go rfl ?_
              have t89 := fI_of ((d81 _ (by decide)).trans hc59) p61
              obtain ⟨f90, p91, t92⟩ := mf_4 hO83 ((d81 _ (by decide)).trans hc59)
              have t93 := fI_of ((d81 _ (by decide)).trans hc59) p91
              have z94 := any_r x85
              exact ih52 x85 _ hO83 (hu53.tr hu83) (by omega) (px54.cong (d81 _ (by decide)) (d81 _ (by decide))) ⟨fun b hb => (w84.2 b hb).trans (px55.1 b hb), fun c c0 c1 => by have b := gI_sq (j := c) (am_l (a := 81) hO53 (by decide) rfl (by decide)) w84.1 (by omega) c0; by_cases e : c = x49.toInt; exact (b.1 (by omega)).trans (by decide); exact (b.2 (by omega)).trans (px55.2 c c0 (by omega))⟩ (by omega)
        exact L50 _ 0 _ hO45 un.rf (by omega) (GX.push (j := f3) (x := a1) hX0.1 hc22 ((d44 _ (by decide)).trans ((d35 _ (by decide)).trans hc27)) (by omega) (by omega) (by omega) (by omega)) ⟨fun _ _ => rfl, fun c c0 c1 => by exfalso; omega⟩ (Nat.lt_succ_self _)
      · have t95 := ne_no c20
        refine ur_push rfl ?_
        exact ur_ret rfl rfl (hQ _ _ ⟨_, rfl, Or.inr (Or.inl ⟨by omega, by omega, by omega, by omega⟩)⟩ hO0 un.rf hX0 pre0 ⟨fun q => by exfalso; omega, fun _ => rfl⟩)
    · have t96 := wi_noL c18 l_0 l_60
      refine ur_push rfl ?_
      exact ur_ret rfl rfl (hQ _ _ ⟨_, rfl, Or.inl ⟨by omega, by omega, by omega⟩⟩ hO0 un.rf hX0 pre0 ⟨fun q => by exfalso; omega, fun _ => rfl⟩)
end SKY7
