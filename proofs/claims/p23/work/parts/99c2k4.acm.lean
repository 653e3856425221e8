/-! ACTS of the reference, printed by program but for its head -/
section ACM
def gE (h : aH) (a : Nat) (i : Int) : Int32 := (arI h a).getD i.toNat 0
theorem gE_of {h : aH} {a kd : Nat} {xs : List Int32} {j z : Int32} (hc : h[a]? = some (.inr (kd, .inl xs))) (hx : xs[j.toInt.toNat]? = some z) : gE h a j.toInt = z := by
  unfold gE
  rw [arI_of hc, List.getD_eq_getElem?_getD, hx]
  rfl
theorem gE_c {h h' : aH} {a : Nat} (e : arI h' a = arI h a) (i : Int) : gE h' a i = gE h a i := by unfold gE; rw [e]
theorem gI_c9 {h h' : aH} {a : Nat} (e : arI h' a = arI h a) (i : Int) : gI h' a i = gI h a i := by unfold gI; rw [e]
def mPD (w x : Int32) : Int32 × List Int := (x + w, [1])
def mD (k : Int) (w x : Int32) : Int32 × List Int := if k = 3 then ((mPD w x).1 - 1, 40 :: (mPD w x).2) else if k = 7 then ((mPD w (x + 1)).1, 80 :: (mPD w (x + 1)).2) else mPD w x
def mPP (k : Int) (w x : Int32) : Int32 × List Int := ((mD k w x).1 * 2, 10 :: (mD k w x).2)
def mLP (k : Int) (w mo x : Int32) : Int32 × List Int := ((mPP k w x).1 + mo, 20 :: (mPP k w x).2)
def mPS (w x : Int32) : Int32 × List Int := (x ^^^ w, [11])
def mS (k : Int) (w x : Int32) : Int32 × List Int := if k = 2 ∨ k = 7 then ((mPS w x).1 * 3, 30 :: (mPS w x).2) else if k = 4 then (-(mPS w x).1, 50 :: (mPS w x).2) else mPS w x
def mP (k : Int) (w mo x : Int32) : Int32 × List Int := if k = 6 then ((mLP k w mo x).1 - (mS k w 2).1, 70 :: ((mLP k w mo x).2 ++ (mS k w 2).2)) else if k = 1 then mLP k w mo x else mPP k w x
def mPT (k : Int) (w mo x : Int32) : Int32 × List Int := ((mP k w mo x).1 + (mS k w 1).1, 2 :: ((mP k w mo x).2 ++ (mS k w 1).2))
def mT (k : Int) (w mo x : Int32) : Int32 × List Int := if k = 5 then ((mPT k w mo x).1 ^^^ 7, 60 :: (mPT k w mo x).2) else if k = 7 then ((mPT k w mo x).1 * 2, 81 :: (mPT k w mo x).2) else mPT k w mo x
def mA (k : Int) (w mo : Int32) (a : Int) (x : Int32) : Int32 × List Int := if a = 0 then mD k w x else if a = 1 then mP k w mo x else if a = 2 then mS k w x else mT k w mo x
set_option maxRecDepth 20000 in
set_option maxHeartbeats 4000000 in
theorem sd_X12_ran {d kc ks : Nat} {h0 : aH} {Q : Option aV → aH → Prop} (hO0 : OK h0) (a1 : Int32) (pre0 : 0 ≤ fI h0 63) (pre1 : fI h0 63 ≤ 900000) (hQ : ∀ r h', (r = none) → OK h' → un [109, 7963] h0 h' → (fI h' 63 = fI h0 63 + 1) → (TRa 109 (fI h0 63) (fI h' 63) h0 h' ([a1.toInt])) → Q r h') : uCall Mt (d + 1) 283 [(.inr (.inr (some 69))), (.inl a1)] h0 kc ks Q := by
  have l_1 : ((1) : Int32).toInt = 1 := by decide
  have l_24 : ((24) : Int32).toInt = 24 := by decide
  refine uc_ink [some (.inr (.inr (some 69))), some (.inl a1)] mt_283 (Nat.le_of_ble_eq_true rfl) rfl ?_
  obtain ⟨fs1, hc2⟩ := hO0.mod
  obtain ⟨f3, p4, t5⟩ := mf_63 hO0 hc2
  have t6 := fI_of hc2 p4
  refine ur_ldA rfl rfl ?_
  refine ur_get rfl hc2 p4 ?_
  refine ur_push rfl ?_
  refine ur_if2 rfl (fun c7 => ?_) (fun c7 => ?_)
  · have t8 := le_to c7
    refine ur_ldA rfl rfl ?_
    refine ur_dup rfl rfl ?_
    refine ur_get rfl hc2 p4 ?_
    refine ur_push rfl ?_
    refine ur_binV rfl (fun x9 e10 => ?_)
    have z11 := any_r f3
    have t12 := ti_add e10 (by omega) (by omega)
    refine ur_putM (W := [7963]) rfl hO0 hc2 (by decide) rfl (ms_63 (hO0.msh hc2) (show 0 ≤ x9.toInt ∧ x9.toInt ≤ 1000000 by omega)) (Or.inr (by decide)) (fun h14 hO14 hv14 d13 hc15 => ?_)
    have hu14 : un [109, 7963] h0 h14 := hv14.mono (by decide)
    have t16 := fI_of hc15 (gs_eq p4)
    exact ur_ret0 rfl (hQ _ _ rfl hO14 hu14 (by omega) (TRa.one (v := a1) (am_len hO0 (by decide) rfl) (by omega) (by omega) (fun q => absurd q (by omega)) (fun _ => (arI_c (d13 109 (by decide))))))
  · have t17 := le_no c7
    refine ur_ldA rfl rfl ?_
    refine ur_get rfl hc2 (mf_64 hO0 hc2) ?_
    refine ur_ldA rfl rfl ?_
    refine ur_get rfl hc2 p4 ?_
    refine ur_ldI rfl rfl ?_
    obtain ⟨xs19, hc18, hn20, he21⟩ := hO0.int (hO0.fix 109 (by decide) rfl)
    refine ur_astV (W := [109]) (m := 24) rfl hO0 hc18 (by decide) hn20 (by omega) (any_r _) (Or.inr (Or.inr (wid_fix (by decide) (by decide)))) (fun h24 hO24 hv24 d22 hc23 => ?_)
    have hu24 : un [109, 7963] h0 h24 := hv24.mono (by decide)
    have w25 : wI h0 h24 109 ((arI h0 109).set (f3 : Int32).toInt.toNat a1) := ⟨by rw [arI_of hc23, arI_of hc18], d22⟩
    refine ur_ldA rfl rfl ?_
    refine ur_dup rfl rfl ?_
    have t26 := fI_of ((d22 _ (by decide)).trans hc2) p4
    refine ur_get rfl ((d22 _ (by decide)).trans hc2) p4 ?_
    refine ur_push rfl ?_
    refine ur_binV rfl (fun x27 e28 => ?_)
    have z29 := any_r f3
    have t30 := ti_add e28 (by omega) (by omega)
    refine ur_putM (W := [7963]) rfl hO24 ((d22 _ (by decide)).trans hc2) (by decide) rfl (ms_63 (hO24.msh ((d22 _ (by decide)).trans hc2)) (show 0 ≤ x27.toInt ∧ x27.toInt ≤ 1000000 by omega)) (Or.inr (by decide)) (fun h32 hO32 hv32 d31 hc33 => ?_)
    have hu32 : un [109, 7963] h24 h32 := hv32.mono (by decide)
    have t34 := fI_of hc33 (gs_eq p4)
    exact ur_ret0 rfl (hQ _ _ rfl hO32 (hu24.tr hu32) (by omega) (TRa.one (am_len hO0 (by decide) rfl) (by omega) (by omega) (fun _ => by rw [show (fI h0 63).toNat = (f3 : Int32).toInt.toNat from congrArg Int.toNat (show (fI h0 63) = (f3 : Int32).toInt by omega)]; exact (arI_c (d31 109 (by decide))).trans w25.1) (fun q => absurd q (by omega))))

set_option maxRecDepth 20000 in
set_option maxHeartbeats 4000000 in
theorem sd_X12_plainDates {d kc ks : Nat} {h0 : aH} {Q : Option aV → aH → Prop} (hO0 : OK h0) (a1 : Int32) (b1 : 0 ≤ a1.toInt ∧ a1.toInt ≤ 149) (a2 : Int32) (pre0 : 0 ≤ fI h0 63) (pre1 : fI h0 63 ≤ 899000) (hQ : ∀ r h', (∃ x : Int32, r = some (.inl x) ∧ (x = (mPD a1 a2).1)) → OK h' → un [109, 7963] h0 h' → (fI h' 63 ≤ fI h0 63 + 1) → (TRa 109 (fI h0 63) (fI h' 63) h0 h' ((mPD a1 a2).2)) → (0 ≤ fI h' 63) → Q r h') : uCall Mt (d + 2) 284 [(.inr (.inr (some 69))), (.inl a1), (.inl a2)] h0 kc ks Q := by
  have l_1 : ((1) : Int32).toInt = 1 := by decide
  refine uc_ink [some (.inr (.inr (some 69))), some (.inl a1), some (.inl a2)] mt_284 (Nat.le_of_ble_eq_true rfl) rfl ?_
  obtain ⟨fs1, hc2⟩ := hO0.mod
  obtain ⟨f3, p4, t5⟩ := mf_63 hO0 hc2
  have t6 := fI_of hc2 p4
  refine ur_ldA rfl rfl ?_
  refine ur_push rfl ?_
  refine ur_inl rfl (rcv_of hc2) (Nat.le_of_ble_eq_true rfl) (Nat.le_of_ble_eq_true rfl) (sd_X12_ran hO0 _ (by omega) (by omega) (fun w7 h11 hr8 hO11 hv11 hp9 hp10 => ?_))
  have hu11 := hv11
  subst hr8
  show uRun _ (uCall Mt _) _ 5 (_, [], _, _, _)
  refine ur_ldI rfl rfl ?_
  refine ur_ldI rfl rfl ?_
  refine ur_binV rfl (fun x12 e13 => ?_)
  have z14 := any_r a2
  have z15 := any_r a1
  obtain ⟨fs16, hc17⟩ := hO11.mod
  obtain ⟨f18, p19, t20⟩ := mf_63 hO11 hc17
  have t21 := fI_of hc17 p19
  exact ur_ret rfl rfl (hQ _ _ ⟨_, rfl, by unfold mPD; exact e13.symm⟩ hO11 hu11 (by omega) (hp10.c (by unfold mPD; rfl)) (by omega))

set_option maxRecDepth 20000 in
set_option maxHeartbeats 4000000 in
theorem sd_X12_dates {d kc ks : Nat} {h0 : aH} {Q : Option aV → aH → Prop} (hO0 : OK h0) (a1 : Int32) (b1 : 0 ≤ a1.toInt ∧ a1.toInt ≤ 149) (a2 : Int32) (pre0 : 0 ≤ fI h0 63) (pre1 : fI h0 63 ≤ 898000) (hQ : ∀ r h', (∃ x : Int32, r = some (.inl x) ∧ (x = (mD (gI h0 96 a1.toInt) a1 a2).1)) → OK h' → un [109, 7963] h0 h' → (fI h' 63 ≤ fI h0 63 + 2) → (TRa 109 (fI h0 63) (fI h' 63) h0 h' ((mD (gI h0 96 a1.toInt) a1 a2).2)) → (0 ≤ fI h' 63) → Q r h') : uCall Mt (d + 3) 285 [(.inr (.inr (some 69))), (.inl a1), (.inl a2)] h0 kc ks Q := by
  have l_1 : ((1) : Int32).toInt = 1 := by decide
  have l_3 : ((3) : Int32).toInt = 3 := by decide
  have l_7 : ((7) : Int32).toInt = 7 := by decide
  have l_40 : ((40) : Int32).toInt = 40 := by decide
  have l_80 : ((80) : Int32).toInt = 80 := by decide
  refine uc_ink [some (.inr (.inr (some 69))), some (.inl a1), some (.inl a2)] mt_285 (Nat.le_of_ble_eq_true rfl) rfl ?_
  obtain ⟨fs1, hc2⟩ := hO0.mod
  obtain ⟨f3, p4, t5⟩ := mf_63 hO0 hc2
  have t6 := fI_of hc2 p4
  refine ur_ldA rfl rfl ?_
  refine ur_get rfl hc2 (mf_39 hO0 hc2) ?_
  refine ur_ldI rfl rfl ?_
  obtain ⟨xs8, hc7, hn9, he10⟩ := hO0.int (hO0.fix 96 (by decide) rfl)
  refine ur_aldV rfl hc7 hn9 (by omega) (fun x11 hx12 => ?_)
  have t13 := gI_of (j := a1) hc7 hx12
  have t14 : 0 ≤ x11.toInt ∧ x11.toInt ≤ 7 := he10 _ _ hx12
  refine ur_push rfl ?_
  refine ur_if2 rfl (fun c15 => ?_) (fun c15 => ?_)
  · have t16 := ne_to c15
    refine ur_ldA rfl rfl ?_
    refine ur_get rfl hc2 (mf_39 hO0 hc2) ?_
    refine ur_ldI rfl rfl ?_
    refine ur_aldV rfl hc7 hn9 (by omega) (fun x17 hx18 => ?_)
    obtain rfl : x11 = x17 := Option.some.inj (hx12.symm.trans hx18)
    refine ur_push rfl ?_
    refine ur_if2 rfl (fun c19 => ?_) (fun c19 => ?_)
    · have t20 := ne_to c19
      refine ur_ldA rfl rfl ?_
      refine ur_ldI rfl rfl ?_
      refine ur_ldI rfl rfl ?_
      refine ur_inl rfl (rcv_of hc2) (Nat.le_of_ble_eq_true rfl) (Nat.le_of_ble_eq_true rfl) (sd_X12_plainDates hO0 _ (by show 0 ≤ a1.toInt ∧ a1.toInt ≤ 149; omega) _ (by omega) (by omega) (fun w21 h26 hr22 hO26 hv26 hp23 hp24 hp25 => ?_))
      have hu26 := hv26
      obtain ⟨x27, rfl, f28⟩ := hr22
      show uRun _ (uCall Mt _) _ 57 (_, [(.inl x27)], _, _, _)
      obtain ⟨fs29, hc30⟩ := hO26.mod
      obtain ⟨f31, p32, t33⟩ := mf_63 hO26 hc30
      have t34 := fI_of hc30 p32
      have q35 := f28
      have q36 := hp24
      exact ur_ret rfl rfl (hQ _ _ ⟨_, rfl, by unfold mD; rw [if_neg (by omega), if_neg (by omega)]; exact f28⟩ hO26 hu26 (by omega) (q36.c (by unfold mD; rw [if_neg (by omega), if_neg (by omega)] <;> rfl)) (by omega))
    · have t37 := ne_no c19
      refine ur_ldA rfl rfl ?_
      refine ur_push rfl ?_
      refine ur_inl rfl (rcv_of hc2) (Nat.le_of_ble_eq_true rfl) (Nat.le_of_ble_eq_true rfl) (sd_X12_ran hO0 _ (by omega) (by omega) (fun w38 h42 hr39 hO42 hv42 hp40 hp41 => ?_))
      have hu42 := hv42
      subst hr39
      show uRun _ (uCall Mt _) _ 42 (_, [], _, _, _)
      refine ur_ldA rfl rfl ?_
      refine ur_ldI rfl rfl ?_
      refine ur_ldI rfl rfl ?_
      refine ur_push rfl ?_
      refine ur_binV rfl (fun x43 e44 => ?_)
      have z45 := any_r a2
      obtain ⟨fs46, hc47⟩ := hO42.mod
      obtain ⟨f48, p49, t50⟩ := mf_63 hO42 hc47
      have t51 := fI_of hc47 p49
      refine ur_inl rfl (rcv_of hc47) (Nat.le_of_ble_eq_true rfl) (Nat.le_of_ble_eq_true rfl) (sd_X12_plainDates hO42 _ (by show 0 ≤ a1.toInt ∧ a1.toInt ≤ 149; omega) _ (by omega) (by omega) (fun w52 h57 hr53 hO57 hv57 hp54 hp55 hp56 => ?_))
      have hu57 := hv57
      obtain ⟨x58, rfl, f59⟩ := hr53
      show uRun _ (uCall Mt _) _ 50 (_, [(.inl x58)], _, _, _)
      obtain ⟨fs60, hc61⟩ := hO57.mod
      obtain ⟨f62, p63, t64⟩ := mf_63 hO57 hc61
      have t65 := fI_of hc61 p63
      have q66 := f59
      have q67 := hp55
      have t68 : gI h42 96 a1.toInt = gI h0 96 a1.toInt := gI_c9 (arI_keep (a := 96) (kd := 0) (n := 150) hO0 hu42 (by decide) rfl (by decide) rfl (by decide) (by decide)) _
      have t69 : gE h42 103 a1.toInt = gE h0 103 a1.toInt := gE_c (arI_keep (a := 103) (kd := 0) (n := 150) hO0 hu42 (by decide) rfl (by decide) rfl (by decide) (by decide)) _
      exact ur_ret rfl rfl (hQ _ _ ⟨_, rfl, by unfold mD; rw [if_neg (by omega), if_pos (by omega)]; rw [e44]; exact f59⟩ hO57 (hu42.tr hu57) (by omega) ((hp41.cons q67).c (by unfold mD; rw [if_neg (by omega), if_pos (by omega)] <;> rfl)) (by omega))
  · have t70 := ne_no c15
    refine ur_ldA rfl rfl ?_
    refine ur_push rfl ?_
    refine ur_inl rfl (rcv_of hc2) (Nat.le_of_ble_eq_true rfl) (Nat.le_of_ble_eq_true rfl) (sd_X12_ran hO0 _ (by omega) (by omega) (fun w71 h75 hr72 hO75 hv75 hp73 hp74 => ?_))
    have hu75 := hv75
    subst hr72
    show uRun _ (uCall Mt _) _ 16 (_, [], _, _, _)
    refine ur_ldA rfl rfl ?_
    refine ur_ldI rfl rfl ?_
    refine ur_ldI rfl rfl ?_
    obtain ⟨fs76, hc77⟩ := hO75.mod
    obtain ⟨f78, p79, t80⟩ := mf_63 hO75 hc77
    have t81 := fI_of hc77 p79
    refine ur_inl rfl (rcv_of hc77) (Nat.le_of_ble_eq_true rfl) (Nat.le_of_ble_eq_true rfl) (sd_X12_plainDates hO75 _ (by show 0 ≤ a1.toInt ∧ a1.toInt ≤ 149; omega) _ (by omega) (by omega) (fun w82 h87 hr83 hO87 hv87 hp84 hp85 hp86 => ?_))
    have hu87 := hv87
    obtain ⟨x88, rfl, f89⟩ := hr83
    show uRun _ (uCall Mt _) _ 22 (_, [(.inl x88)], _, _, _)
    refine ur_push rfl ?_
    refine ur_binV rfl (fun x90 e91 => ?_)
    have z92 := any_r x88
    obtain ⟨fs93, hc94⟩ := hO87.mod
    obtain ⟨f95, p96, t97⟩ := mf_63 hO87 hc94
    have t98 := fI_of hc94 p96
    have q99 := f89
    have q100 := hp85
    have t101 : gI h75 96 a1.toInt = gI h0 96 a1.toInt := gI_c9 (arI_keep (a := 96) (kd := 0) (n := 150) hO0 hu75 (by decide) rfl (by decide) rfl (by decide) (by decide)) _
    have t102 : gE h75 103 a1.toInt = gE h0 103 a1.toInt := gE_c (arI_keep (a := 103) (kd := 0) (n := 150) hO0 hu75 (by decide) rfl (by decide) rfl (by decide) (by decide)) _
    exact ur_ret rfl rfl (hQ _ _ ⟨_, rfl, by unfold mD; rw [if_pos (by omega)]; rw [← e91, f89]⟩ hO87 (hu75.tr hu87) (by omega) ((hp74.cons q100).c (by unfold mD; rw [if_pos (by omega)] <;> rfl)) (by omega))

set_option maxRecDepth 20000 in
set_option maxHeartbeats 4000000 in
theorem sd_X12_plainPlaces {d kc ks : Nat} {h0 : aH} {Q : Option aV → aH → Prop} (hO0 : OK h0) (a1 : Int32) (b1 : 0 ≤ a1.toInt ∧ a1.toInt ≤ 149) (a2 : Int32) (pre0 : 0 ≤ fI h0 63) (pre1 : fI h0 63 ≤ 897000) (hQ : ∀ r h', (∃ x : Int32, r = some (.inl x) ∧ (x = (mPP (gI h0 96 a1.toInt) a1 a2).1)) → OK h' → un [109, 7963] h0 h' → (fI h' 63 ≤ fI h0 63 + 3) → (TRa 109 (fI h0 63) (fI h' 63) h0 h' ((mPP (gI h0 96 a1.toInt) a1 a2).2)) → (0 ≤ fI h' 63) → Q r h') : uCall Mt (d + 4) 286 [(.inr (.inr (some 69))), (.inl a1), (.inl a2)] h0 kc ks Q := by
  have l_2 : ((2) : Int32).toInt = 2 := by decide
  have l_10 : ((10) : Int32).toInt = 10 := by decide
  refine uc_ink [some (.inr (.inr (some 69))), some (.inl a1), some (.inl a2)] mt_286 (Nat.le_of_ble_eq_true rfl) rfl ?_
  obtain ⟨fs1, hc2⟩ := hO0.mod
  obtain ⟨f3, p4, t5⟩ := mf_63 hO0 hc2
  have t6 := fI_of hc2 p4
  refine ur_ldA rfl rfl ?_
  refine ur_push rfl ?_
  refine ur_inl rfl (rcv_of hc2) (Nat.le_of_ble_eq_true rfl) (Nat.le_of_ble_eq_true rfl) (sd_X12_ran hO0 _ (by omega) (by omega) (fun w7 h11 hr8 hO11 hv11 hp9 hp10 => ?_))
  have hu11 := hv11
  subst hr8
  show uRun _ (uCall Mt _) _ 6 (_, [], _, _, _)
  refine ur_ldA rfl rfl ?_
  refine ur_ldI rfl rfl ?_
  refine ur_ldI rfl rfl ?_
  obtain ⟨fs12, hc13⟩ := hO11.mod
  obtain ⟨f14, p15, t16⟩ := mf_63 hO11 hc13
  have t17 := fI_of hc13 p15
  refine ur_inl rfl (rcv_of hc13) (Nat.le_of_ble_eq_true rfl) (Nat.le_of_ble_eq_true rfl) (sd_X12_dates hO11 _ (by show 0 ≤ a1.toInt ∧ a1.toInt ≤ 149; omega) _ (by omega) (by omega) (fun w18 h23 hr19 hO23 hv23 hp20 hp21 hp22 => ?_))
  have hu23 := hv23
  obtain ⟨x24, rfl, f25⟩ := hr19
  show uRun _ (uCall Mt _) _ 12 (_, [(.inl x24)], _, _, _)
  refine ur_push rfl ?_
  refine ur_binV rfl (fun x26 e27 => ?_)
  have z28 := any_r x24
  obtain ⟨fs29, hc30⟩ := hO23.mod
  obtain ⟨f31, p32, t33⟩ := mf_63 hO23 hc30
  have t34 := fI_of hc30 p32
  have q35 := f25
  have q36 := hp21
  have t37 : gI h11 96 a1.toInt = gI h0 96 a1.toInt := gI_c9 (arI_keep (a := 96) (kd := 0) (n := 150) hO0 hu11 (by decide) rfl (by decide) rfl (by decide) (by decide)) _
  have t38 : gE h11 103 a1.toInt = gE h0 103 a1.toInt := gE_c (arI_keep (a := 103) (kd := 0) (n := 150) hO0 hu11 (by decide) rfl (by decide) rfl (by decide) (by decide)) _
  rw [t37] at q35 q36
  exact ur_ret rfl rfl (hQ _ _ ⟨_, rfl, by unfold mPP; rw [← e27, (f25.trans (by rw [gI_c9 (arI_keep (a := 96) (kd := 0) (n := 150) hO0 hu11 (by decide) rfl (by decide) rfl (by decide) (by decide)) a1.toInt]))]⟩ hO23 (hu11.tr hu23) (by omega) ((hp10.cons q36).c (by unfold mPP; rfl)) (by omega))

set_option maxRecDepth 20000 in
set_option maxHeartbeats 4000000 in
theorem sd_X12_placedPlaces {d kc ks : Nat} {h0 : aH} {Q : Option aV → aH → Prop} (hO0 : OK h0) (a1 : Int32) (b1 : 0 ≤ a1.toInt ∧ a1.toInt ≤ 149) (a2 : Int32) (pre0 : 0 ≤ fI h0 63) (pre1 : fI h0 63 ≤ 896000) (hQ : ∀ r h', (∃ x : Int32, r = some (.inl x) ∧ (x = (mLP (gI h0 96 a1.toInt) a1 (gE h0 103 a1.toInt) a2).1)) → OK h' → un [109, 7963] h0 h' → (fI h' 63 ≤ fI h0 63 + 4) → (TRa 109 (fI h0 63) (fI h' 63) h0 h' ((mLP (gI h0 96 a1.toInt) a1 (gE h0 103 a1.toInt) a2).2)) → (0 ≤ fI h' 63) → Q r h') : uCall Mt (d + 5) 287 [(.inr (.inr (some 69))), (.inl a1), (.inl a2)] h0 kc ks Q := by
  have l_20 : ((20) : Int32).toInt = 20 := by decide
  refine uc_ink [some (.inr (.inr (some 69))), some (.inl a1), some (.inl a2)] mt_287 (Nat.le_of_ble_eq_true rfl) rfl ?_
  obtain ⟨fs1, hc2⟩ := hO0.mod
  obtain ⟨f3, p4, t5⟩ := mf_63 hO0 hc2
  have t6 := fI_of hc2 p4
  refine ur_ldA rfl rfl ?_
  refine ur_push rfl ?_
  refine ur_inl rfl (rcv_of hc2) (Nat.le_of_ble_eq_true rfl) (Nat.le_of_ble_eq_true rfl) (sd_X12_ran hO0 _ (by omega) (by omega) (fun w7 h11 hr8 hO11 hv11 hp9 hp10 => ?_))
  have hu11 := hv11
  subst hr8
  show uRun _ (uCall Mt _) _ 6 (_, [], _, _, _)
  refine ur_ldA rfl rfl ?_
  refine ur_ldI rfl rfl ?_
  refine ur_ldI rfl rfl ?_
  obtain ⟨fs12, hc13⟩ := hO11.mod
  obtain ⟨f14, p15, t16⟩ := mf_63 hO11 hc13
  have t17 := fI_of hc13 p15
  refine ur_inl rfl (rcv_of hc13) (Nat.le_of_ble_eq_true rfl) (Nat.le_of_ble_eq_true rfl) (sd_X12_plainPlaces hO11 _ (by show 0 ≤ a1.toInt ∧ a1.toInt ≤ 149; omega) _ (by omega) (by omega) (fun w18 h23 hr19 hO23 hv23 hp20 hp21 hp22 => ?_))
  have hu23 := hv23
  obtain ⟨x24, rfl, f25⟩ := hr19
  show uRun _ (uCall Mt _) _ 12 (_, [(.inl x24)], _, _, _)
  refine ur_ldA rfl rfl ?_
  obtain ⟨fs26, hc27⟩ := hO23.mod
  refine ur_get rfl hc27 (mf_46 hO23 hc27) ?_
  refine ur_ldI rfl rfl ?_
  obtain ⟨xs29, hc28, hn30, he31⟩ := hO23.int (hO23.fix 103 (by decide) rfl)
  refine ur_aldV rfl hc28 hn30 (by omega) (fun x32 hx33 => ?_)
  have t34 := gI_of (j := a1) hc28 hx33
  have t35 : -1 ≤ x32.toInt ∧ x32.toInt ≤ 149 := he31 _ _ hx33
  have t36 : gI h23 96 a1.toInt = gI h0 96 a1.toInt := gI_c9 (arI_keep (a := 96) (kd := 0) (n := 150) hO0 (hu11.tr hu23) (by decide) rfl (by decide) rfl (by decide) (by decide)) _
  have t37 : gE h23 103 a1.toInt = gE h0 103 a1.toInt := gE_c (arI_keep (a := 103) (kd := 0) (n := 150) hO0 (hu11.tr hu23) (by decide) rfl (by decide) rfl (by decide) (by decide)) _
  have t38 : gE h0 103 a1.toInt = x32 := t37.symm.trans (gE_of (j := a1) hc28 hx33)
  refine ur_binV rfl (fun x39 e40 => ?_)
  have z41 := any_r x24
  have z42 := any_r x32
  obtain ⟨f43, p44, t45⟩ := mf_63 hO23 hc27
  have t46 := fI_of hc27 p44
  have q47 := f25
  have q48 := hp21
  have t49 : gI h11 96 a1.toInt = gI h0 96 a1.toInt := gI_c9 (arI_keep (a := 96) (kd := 0) (n := 150) hO0 hu11 (by decide) rfl (by decide) rfl (by decide) (by decide)) _
  have t50 : gE h11 103 a1.toInt = gE h0 103 a1.toInt := gE_c (arI_keep (a := 103) (kd := 0) (n := 150) hO0 hu11 (by decide) rfl (by decide) rfl (by decide) (by decide)) _
  rw [t49] at q47 q48
  exact ur_ret rfl rfl (hQ _ _ ⟨_, rfl, by unfold mLP; rw [← e40, (f25.trans (by rw [gI_c9 (arI_keep (a := 96) (kd := 0) (n := 150) hO0 hu11 (by decide) rfl (by decide) rfl (by decide) (by decide)) a1.toInt])), t38]⟩ hO23 (hu11.tr hu23) (by omega) ((hp10.cons q48).c (by unfold mLP; rfl)) (by omega))

set_option maxRecDepth 20000 in
set_option maxHeartbeats 4000000 in
theorem sd_X12_plainSuits {d kc ks : Nat} {h0 : aH} {Q : Option aV → aH → Prop} (hO0 : OK h0) (a1 : Int32) (b1 : 0 ≤ a1.toInt ∧ a1.toInt ≤ 149) (a2 : Int32) (pre0 : 0 ≤ fI h0 63) (pre1 : fI h0 63 ≤ 899000) (hQ : ∀ r h', (∃ x : Int32, r = some (.inl x) ∧ (x = (mPS a1 a2).1)) → OK h' → un [109, 7963] h0 h' → (fI h' 63 ≤ fI h0 63 + 1) → (TRa 109 (fI h0 63) (fI h' 63) h0 h' ((mPS a1 a2).2)) → (0 ≤ fI h' 63) → Q r h') : uCall Mt (d + 2) 289 [(.inr (.inr (some 69))), (.inl a1), (.inl a2)] h0 kc ks Q := by
  have l_11 : ((11) : Int32).toInt = 11 := by decide
  refine uc_ink [some (.inr (.inr (some 69))), some (.inl a1), some (.inl a2)] mt_289 (Nat.le_of_ble_eq_true rfl) rfl ?_
  obtain ⟨fs1, hc2⟩ := hO0.mod
  obtain ⟨f3, p4, t5⟩ := mf_63 hO0 hc2
  have t6 := fI_of hc2 p4
  refine ur_ldA rfl rfl ?_
  refine ur_push rfl ?_
  refine ur_inl rfl (rcv_of hc2) (Nat.le_of_ble_eq_true rfl) (Nat.le_of_ble_eq_true rfl) (sd_X12_ran hO0 _ (by omega) (by omega) (fun w7 h11 hr8 hO11 hv11 hp9 hp10 => ?_))
  have hu11 := hv11
  subst hr8
  show uRun _ (uCall Mt _) _ 6 (_, [], _, _, _)
  refine ur_ldI rfl rfl ?_
  refine ur_ldI rfl rfl ?_
  refine ur_binV rfl (fun x12 e13 => ?_)
  obtain ⟨fs14, hc15⟩ := hO11.mod
  obtain ⟨f16, p17, t18⟩ := mf_63 hO11 hc15
  have t19 := fI_of hc15 p17
  exact ur_ret rfl rfl (hQ _ _ ⟨_, rfl, by unfold mPS; exact e13.symm⟩ hO11 hu11 (by omega) (hp10.c (by unfold mPS; rfl)) (by omega))

set_option maxRecDepth 20000 in
set_option maxHeartbeats 4000000 in
theorem sd_X12_suits {d kc ks : Nat} {h0 : aH} {Q : Option aV → aH → Prop} (hO0 : OK h0) (a1 : Int32) (b1 : 0 ≤ a1.toInt ∧ a1.toInt ≤ 149) (a2 : Int32) (pre0 : 0 ≤ fI h0 63) (pre1 : fI h0 63 ≤ 898000) (hQ : ∀ r h', (∃ x : Int32, r = some (.inl x) ∧ (x = (mS (gI h0 96 a1.toInt) a1 a2).1)) → OK h' → un [109, 7963] h0 h' → (fI h' 63 ≤ fI h0 63 + 2) → (TRa 109 (fI h0 63) (fI h' 63) h0 h' ((mS (gI h0 96 a1.toInt) a1 a2).2)) → (0 ≤ fI h' 63) → Q r h') : uCall Mt (d + 3) 290 [(.inr (.inr (some 69))), (.inl a1), (.inl a2)] h0 kc ks Q := by
  have l_3 : ((3) : Int32).toInt = 3 := by decide
  have l_4 : ((4) : Int32).toInt = 4 := by decide
  have l_30 : ((30) : Int32).toInt = 30 := by decide
  have l_50 : ((50) : Int32).toInt = 50 := by decide
  refine uc_ink [some (.inr (.inr (some 69))), some (.inl a1), some (.inl a2)] mt_290 (Nat.le_of_ble_eq_true rfl) rfl ?_
  obtain ⟨fs1, hc2⟩ := hO0.mod
  obtain ⟨f3, p4, t5⟩ := mf_63 hO0 hc2
  have t6 := fI_of hc2 p4
  refine ur_ldA rfl rfl ?_
  refine ur_get rfl hc2 (mf_39 hO0 hc2) ?_
  refine ur_ldI rfl rfl ?_
  obtain ⟨xs8, hc7, hn9, he10⟩ := hO0.int (hO0.fix 96 (by decide) rfl)
  refine ur_aldV rfl hc7 hn9 (by omega) (fun x11 hx12 => ?_)
  have t13 := gI_of (j := a1) hc7 hx12
  have t14 : 0 ≤ x11.toInt ∧ x11.toInt ≤ 7 := he10 _ _ hx12
  refine ur_inl rfl rfl (Nat.le_of_ble_eq_true rfl) (Nat.le_of_ble_eq_true rfl) (sd_X12_isSided hO0 _ (fun w15 hr16 => ?_))
  obtain ⟨b17, rfl, t18, t19⟩ := hr16
  show uRun _ (uCall Mt _) _ 9 (_, [(.inl (bi b17))], _, _, _)
  refine ur_eqB rfl (fun c20 => ?_) (fun c20 => ?_)
  · have t21 := t19 c20
    clear t18 t19
    refine ur_ldA rfl rfl ?_
    refine ur_get rfl hc2 (mf_39 hO0 hc2) ?_
    refine ur_ldI rfl rfl ?_
    refine ur_aldV rfl hc7 hn9 (by omega) (fun x22 hx23 => ?_)
    obtain rfl : x11 = x22 := Option.some.inj (hx12.symm.trans hx23)
    refine ur_push rfl ?_
    refine ur_if2 rfl (fun c24 => ?_) (fun c24 => ?_)
    · have t25 := ne_to c24
      refine ur_ldA rfl rfl ?_
      refine ur_ldI rfl rfl ?_
      refine ur_ldI rfl rfl ?_
      refine ur_inl rfl (rcv_of hc2) (Nat.le_of_ble_eq_true rfl) (Nat.le_of_ble_eq_true rfl) (sd_X12_plainSuits hO0 _ (by show 0 ≤ a1.toInt ∧ a1.toInt ≤ 149; omega) _ (by omega) (by omega) (fun w26 h31 hr27 hO31 hv31 hp28 hp29 hp30 => ?_))
      have hu31 := hv31
      obtain ⟨x32, rfl, f33⟩ := hr27
      show uRun _ (uCall Mt _) _ 57 (_, [(.inl x32)], _, _, _)
      obtain ⟨fs34, hc35⟩ := hO31.mod
      obtain ⟨f36, p37, t38⟩ := mf_63 hO31 hc35
      have t39 := fI_of hc35 p37
      have q40 := f33
      have q41 := hp29
      exact ur_ret rfl rfl (hQ _ _ ⟨_, rfl, by unfold mS; rw [if_neg (by omega), if_neg (by omega)]; exact f33⟩ hO31 hu31 (by omega) (q41.c (by unfold mS; rw [if_neg (by omega), if_neg (by omega)] <;> rfl)) (by omega))
    · have t42 := ne_no c24
      refine ur_ldA rfl rfl ?_
      refine ur_push rfl ?_
      refine ur_inl rfl (rcv_of hc2) (Nat.le_of_ble_eq_true rfl) (Nat.le_of_ble_eq_true rfl) (sd_X12_ran hO0 _ (by omega) (by omega) (fun w43 h47 hr44 hO47 hv47 hp45 hp46 => ?_))
      have hu47 := hv47
      subst hr44
      show uRun _ (uCall Mt _) _ 43 (_, [], _, _, _)
      refine ur_ldA rfl rfl ?_
      refine ur_ldI rfl rfl ?_
      refine ur_ldI rfl rfl ?_
      obtain ⟨fs48, hc49⟩ := hO47.mod
      obtain ⟨f50, p51, t52⟩ := mf_63 hO47 hc49
      have t53 := fI_of hc49 p51
      refine ur_inl rfl (rcv_of hc49) (Nat.le_of_ble_eq_true rfl) (Nat.le_of_ble_eq_true rfl) (sd_X12_plainSuits hO47 _ (by show 0 ≤ a1.toInt ∧ a1.toInt ≤ 149; omega) _ (by omega) (by omega) (fun w54 h59 hr55 hO59 hv59 hp56 hp57 hp58 => ?_))
      have hu59 := hv59
      obtain ⟨x60, rfl, f61⟩ := hr55
      show uRun _ (uCall Mt _) _ 49 (_, [(.inl x60)], _, _, _)
      refine ur_unV rfl (fun x62 e63 => ?_)
      have z64 := any_r x60
      obtain ⟨fs65, hc66⟩ := hO59.mod
      obtain ⟨f67, p68, t69⟩ := mf_63 hO59 hc66
      have t70 := fI_of hc66 p68
      have q71 := f61
      have q72 := hp57
      have t73 : gI h47 96 a1.toInt = gI h0 96 a1.toInt := gI_c9 (arI_keep (a := 96) (kd := 0) (n := 150) hO0 hu47 (by decide) rfl (by decide) rfl (by decide) (by decide)) _
      have t74 : gE h47 103 a1.toInt = gE h0 103 a1.toInt := gE_c (arI_keep (a := 103) (kd := 0) (n := 150) hO0 hu47 (by decide) rfl (by decide) rfl (by decide) (by decide)) _
      exact ur_ret rfl rfl (hQ _ _ ⟨_, rfl, by unfold mS; rw [if_neg (by omega), if_pos (by omega)]; rw [← e63, f61]⟩ hO59 (hu47.tr hu59) (by omega) ((hp46.cons q72).c (by unfold mS; rw [if_neg (by omega), if_pos (by omega)] <;> rfl)) (by omega))
  · have t75 := t18 c20
    clear t18 t19
    refine ur_ldA rfl rfl ?_
    refine ur_push rfl ?_
    refine ur_inl rfl (rcv_of hc2) (Nat.le_of_ble_eq_true rfl) (Nat.le_of_ble_eq_true rfl) (sd_X12_ran hO0 _ (by omega) (by omega) (fun w76 h80 hr77 hO80 hv80 hp78 hp79 => ?_))
    have hu80 := hv80
    subst hr77
    show uRun _ (uCall Mt _) _ 18 (_, [], _, _, _)
    refine ur_ldA rfl rfl ?_
    refine ur_ldI rfl rfl ?_
    refine ur_ldI rfl rfl ?_
    obtain ⟨fs81, hc82⟩ := hO80.mod
    obtain ⟨f83, p84, t85⟩ := mf_63 hO80 hc82
    have t86 := fI_of hc82 p84
    refine ur_inl rfl (rcv_of hc82) (Nat.le_of_ble_eq_true rfl) (Nat.le_of_ble_eq_true rfl) (sd_X12_plainSuits hO80 _ (by show 0 ≤ a1.toInt ∧ a1.toInt ≤ 149; omega) _ (by omega) (by omega) (fun w87 h92 hr88 hO92 hv92 hp89 hp90 hp91 => ?_))
    have hu92 := hv92
    obtain ⟨x93, rfl, f94⟩ := hr88
    show uRun _ (uCall Mt _) _ 24 (_, [(.inl x93)], _, _, _)
    refine ur_push rfl ?_
    refine ur_binV rfl (fun x95 e96 => ?_)
    have z97 := any_r x93
    obtain ⟨fs98, hc99⟩ := hO92.mod
    obtain ⟨f100, p101, t102⟩ := mf_63 hO92 hc99
    have t103 := fI_of hc99 p101
    have q104 := f94
    have q105 := hp90
    have t106 : gI h80 96 a1.toInt = gI h0 96 a1.toInt := gI_c9 (arI_keep (a := 96) (kd := 0) (n := 150) hO0 hu80 (by decide) rfl (by decide) rfl (by decide) (by decide)) _
    have t107 : gE h80 103 a1.toInt = gE h0 103 a1.toInt := gE_c (arI_keep (a := 103) (kd := 0) (n := 150) hO0 hu80 (by decide) rfl (by decide) rfl (by decide) (by decide)) _
    exact ur_ret rfl rfl (hQ _ _ ⟨_, rfl, by unfold mS; rw [if_pos (by omega)]; rw [← e96, f94]⟩ hO92 (hu80.tr hu92) (by omega) ((hp79.cons q105).c (by unfold mS; rw [if_pos (by omega)] <;> rfl)) (by omega))

set_option maxRecDepth 20000 in
set_option maxHeartbeats 4000000 in
theorem sd_X12_places {d kc ks : Nat} {h0 : aH} {Q : Option aV → aH → Prop} (hO0 : OK h0) (a1 : Int32) (b1 : 0 ≤ a1.toInt ∧ a1.toInt ≤ 149) (a2 : Int32) (pre0 : 0 ≤ fI h0 63) (pre1 : fI h0 63 ≤ 895000) (hQ : ∀ r h', (∃ x : Int32, r = some (.inl x) ∧ (x = (mP (gI h0 96 a1.toInt) a1 (gE h0 103 a1.toInt) a2).1)) → OK h' → un [109, 7963] h0 h' → (fI h' 63 ≤ fI h0 63 + 7) → (TRa 109 (fI h0 63) (fI h' 63) h0 h' ((mP (gI h0 96 a1.toInt) a1 (gE h0 103 a1.toInt) a2).2)) → (0 ≤ fI h' 63) → Q r h') : uCall Mt (d + 6) 288 [(.inr (.inr (some 69))), (.inl a1), (.inl a2)] h0 kc ks Q := by
  have l_1 : ((1) : Int32).toInt = 1 := by decide
  have l_2 : ((2) : Int32).toInt = 2 := by decide
  have l_6 : ((6) : Int32).toInt = 6 := by decide
  have l_70 : ((70) : Int32).toInt = 70 := by decide
  refine uc_ink [some (.inr (.inr (some 69))), some (.inl a1), some (.inl a2), none] mt_288 (Nat.le_of_ble_eq_true rfl) rfl ?_
  obtain ⟨fs1, hc2⟩ := hO0.mod
  obtain ⟨f3, p4, t5⟩ := mf_63 hO0 hc2
  have t6 := fI_of hc2 p4
  refine ur_ldA rfl rfl ?_
  refine ur_get rfl hc2 (mf_39 hO0 hc2) ?_
  refine ur_ldI rfl rfl ?_
  obtain ⟨xs8, hc7, hn9, he10⟩ := hO0.int (hO0.fix 96 (by decide) rfl)
  refine ur_aldV rfl hc7 hn9 (by omega) (fun x11 hx12 => ?_)
  have t13 := gI_of (j := a1) hc7 hx12
  have t14 : 0 ≤ x11.toInt ∧ x11.toInt ≤ 7 := he10 _ _ hx12
  refine ur_push rfl ?_
  refine ur_if2 rfl (fun c15 => ?_) (fun c15 => ?_)
  · have t16 := ne_to c15
    refine ur_ldA rfl rfl ?_
    refine ur_get rfl hc2 (mf_39 hO0 hc2) ?_
    refine ur_ldI rfl rfl ?_
    refine ur_aldV rfl hc7 hn9 (by omega) (fun x17 hx18 => ?_)
    obtain rfl : x11 = x17 := Option.some.inj (hx12.symm.trans hx18)
    refine ur_push rfl ?_
    refine ur_if2 rfl (fun c19 => ?_) (fun c19 => ?_)
    · have t20 := ne_to c19
      refine ur_ldA rfl rfl ?_
      refine ur_ldI rfl rfl ?_
      refine ur_ldI rfl rfl ?_
      refine ur_inl rfl (rcv_of hc2) (Nat.le_of_ble_eq_true rfl) (Nat.le_of_ble_eq_true rfl) (sd_X12_plainPlaces hO0 _ (by show 0 ≤ a1.toInt ∧ a1.toInt ≤ 149; omega) _ (by omega) (by omega) (fun w21 h26 hr22 hO26 hv26 hp23 hp24 hp25 => ?_))
      have hu26 := hv26
      obtain ⟨x27, rfl, f28⟩ := hr22
      show uRun _ (uCall Mt _) _ 58 (_, [(.inl x27)], _, _, _)
      obtain ⟨fs29, hc30⟩ := hO26.mod
      obtain ⟨f31, p32, t33⟩ := mf_63 hO26 hc30
      have t34 := fI_of hc30 p32
      have q35 := f28
      have q36 := hp24
      exact ur_ret rfl rfl (hQ _ _ ⟨_, rfl, by unfold mP; rw [if_neg (by omega), if_neg (by omega)]; exact f28⟩ hO26 hu26 (by omega) (q36.c (by unfold mP; rw [if_neg (by omega), if_neg (by omega)] <;> rfl)) (by omega))
    · have t37 := ne_no c19
      refine ur_ldA rfl rfl ?_
      refine ur_ldI rfl rfl ?_
      refine ur_ldI rfl rfl ?_
      refine ur_inl rfl (rcv_of hc2) (Nat.le_of_ble_eq_true rfl) (Nat.le_of_ble_eq_true rfl) (sd_X12_placedPlaces hO0 _ (by show 0 ≤ a1.toInt ∧ a1.toInt ≤ 149; omega) _ (by omega) (by omega) (fun w38 h43 hr39 hO43 hv43 hp40 hp41 hp42 => ?_))
      have hu43 := hv43
      obtain ⟨x44, rfl, f45⟩ := hr39
      show uRun _ (uCall Mt _) _ 49 (_, [(.inl x44)], _, _, _)
      refine ur_go rfl ?_
      obtain ⟨fs46, hc47⟩ := hO43.mod
      obtain ⟨f48, p49, t50⟩ := mf_63 hO43 hc47
      have t51 := fI_of hc47 p49
      have q52 := f45
      have q53 := hp41
      exact ur_ret rfl rfl (hQ _ _ ⟨_, rfl, by unfold mP; rw [if_neg (by omega), if_pos (by omega)]; exact f45⟩ hO43 hu43 (by omega) (q53.c (by unfold mP; rw [if_neg (by omega), if_pos (by omega)] <;> rfl)) (by omega))
  · have t54 := ne_no c15
    refine ur_ldA rfl rfl ?_
    refine ur_push rfl ?_
    refine ur_inl rfl (rcv_of hc2) (Nat.le_of_ble_eq_true rfl) (Nat.le_of_ble_eq_true rfl) (sd_X12_ran hO0 _ (by omega) (by omega) (fun w55 h59 hr56 hO59 hv59 hp57 hp58 => ?_))
    have hu59 := hv59
    subst hr56
    show uRun _ (uCall Mt _) _ 17 (_, [], _, _, _)
    refine ur_ldA rfl rfl ?_
    refine ur_ldI rfl rfl ?_
    refine ur_ldI rfl rfl ?_
    obtain ⟨fs60, hc61⟩ := hO59.mod
    obtain ⟨f62, p63, t64⟩ := mf_63 hO59 hc61
    have t65 := fI_of hc61 p63
    refine ur_inl rfl (rcv_of hc61) (Nat.le_of_ble_eq_true rfl) (Nat.le_of_ble_eq_true rfl) (sd_X12_placedPlaces hO59 _ (by show 0 ≤ a1.toInt ∧ a1.toInt ≤ 149; omega) _ (by omega) (by omega) (fun w66 h71 hr67 hO71 hv71 hp68 hp69 hp70 => ?_))
    have hu71 := hv71
    obtain ⟨x72, rfl, f73⟩ := hr67
    show uRun _ (uCall Mt _) _ 23 (_, [(.inl x72)], _, _, _)
    refine ur_svIk [some (.inr (.inr (some 69))), some (.inl a1), some (.inl a2), some (.inl x72)] rfl rfl ?_
    refine ur_ldI rfl rfl ?_
    refine ur_ldA rfl rfl ?_
    refine ur_ldI rfl rfl ?_
    refine ur_push rfl ?_
    obtain ⟨fs74, hc75⟩ := hO71.mod
    obtain ⟨f76, p77, t78⟩ := mf_63 hO71 hc75
    have t79 := fI_of hc75 p77
    refine ur_inl rfl (rcv_of hc75) (Nat.le_of_ble_eq_true rfl) (Nat.le_of_ble_eq_true rfl) (sd_X12_suits hO71 _ (by show 0 ≤ a1.toInt ∧ a1.toInt ≤ 149; omega) _ (by omega) (by omega) (fun w80 h85 hr81 hO85 hv85 hp82 hp83 hp84 => ?_))
    have hu85 := hv85
    obtain ⟨x86, rfl, f87⟩ := hr81
    show uRun _ (uCall Mt _) _ 31 (_, [(.inl x86), (.inl x72)], _, _, _)
    refine ur_binV rfl (fun x88 e89 => ?_)
    have z90 := any_r x72
    have z91 := any_r x86
    obtain ⟨fs92, hc93⟩ := hO85.mod
    obtain ⟨f94, p95, t96⟩ := mf_63 hO85 hc93
    have t97 := fI_of hc93 p95
    have q98 := f73
    have q99 := hp69
    have t100 : gI h59 96 a1.toInt = gI h0 96 a1.toInt := gI_c9 (arI_keep (a := 96) (kd := 0) (n := 150) hO0 hu59 (by decide) rfl (by decide) rfl (by decide) (by decide)) _
    have t101 : gE h59 103 a1.toInt = gE h0 103 a1.toInt := gE_c (arI_keep (a := 103) (kd := 0) (n := 150) hO0 hu59 (by decide) rfl (by decide) rfl (by decide) (by decide)) _
    rw [t100, t101] at q98 q99
    have q102 := f87
    have q103 := hp83
    have t104 : gI h71 96 a1.toInt = gI h0 96 a1.toInt := gI_c9 (arI_keep (a := 96) (kd := 0) (n := 150) hO0 (hu59.tr hu71) (by decide) rfl (by decide) rfl (by decide) (by decide)) _
    have t105 : gE h71 103 a1.toInt = gE h0 103 a1.toInt := gE_c (arI_keep (a := 103) (kd := 0) (n := 150) hO0 (hu59.tr hu71) (by decide) rfl (by decide) rfl (by decide) (by decide)) _
    rw [t104] at q102 q103
    exact ur_ret rfl rfl (hQ _ _ ⟨_, rfl, by unfold mP; rw [if_pos (by omega)]; rw [← e89, (f73.trans (by rw [gI_c9 (arI_keep (a := 96) (kd := 0) (n := 150) hO0 hu59 (by decide) rfl (by decide) rfl (by decide) (by decide)) a1.toInt, gE_c (arI_keep (a := 103) (kd := 0) (n := 150) hO0 hu59 (by decide) rfl (by decide) rfl (by decide) (by decide)) a1.toInt])), (f87.trans (by rw [gI_c9 (arI_keep (a := 96) (kd := 0) (n := 150) hO0 (hu59.tr hu71) (by decide) rfl (by decide) rfl (by decide) (by decide)) a1.toInt]))]⟩ hO85 (hu59.tr (hu71.tr hu85)) (by omega) ((hp58.cons (q99.app q103)).c (by unfold mP; rw [if_pos (by omega)] <;> rfl)) (by omega))

set_option maxRecDepth 20000 in
set_option maxHeartbeats 4000000 in
theorem sd_X12_plainTells {d kc ks : Nat} {h0 : aH} {Q : Option aV → aH → Prop} (hO0 : OK h0) (a1 : Int32) (b1 : 0 ≤ a1.toInt ∧ a1.toInt ≤ 149) (a2 : Int32) (pre0 : 0 ≤ fI h0 63) (pre1 : fI h0 63 ≤ 894000) (hQ : ∀ r h', (∃ x : Int32, r = some (.inl x) ∧ (x = (mPT (gI h0 96 a1.toInt) a1 (gE h0 103 a1.toInt) a2).1)) → OK h' → un [109, 7963] h0 h' → (fI h' 63 ≤ fI h0 63 + 10) → (TRa 109 (fI h0 63) (fI h' 63) h0 h' ((mPT (gI h0 96 a1.toInt) a1 (gE h0 103 a1.toInt) a2).2)) → (0 ≤ fI h' 63) → Q r h') : uCall Mt (d + 7) 291 [(.inr (.inr (some 69))), (.inl a1), (.inl a2)] h0 kc ks Q := by
  have l_1 : ((1) : Int32).toInt = 1 := by decide
  have l_2 : ((2) : Int32).toInt = 2 := by decide
  refine uc_ink [some (.inr (.inr (some 69))), some (.inl a1), some (.inl a2), none] mt_291 (Nat.le_of_ble_eq_true rfl) rfl ?_
  obtain ⟨fs1, hc2⟩ := hO0.mod
  obtain ⟨f3, p4, t5⟩ := mf_63 hO0 hc2
  have t6 := fI_of hc2 p4
  refine ur_ldA rfl rfl ?_
  refine ur_push rfl ?_
  refine ur_inl rfl (rcv_of hc2) (Nat.le_of_ble_eq_true rfl) (Nat.le_of_ble_eq_true rfl) (sd_X12_ran hO0 _ (by omega) (by omega) (fun w7 h11 hr8 hO11 hv11 hp9 hp10 => ?_))
  have hu11 := hv11
  subst hr8
  show uRun _ (uCall Mt _) _ 5 (_, [], _, _, _)
  refine ur_ldA rfl rfl ?_
  refine ur_ldI rfl rfl ?_
  refine ur_ldI rfl rfl ?_
  obtain ⟨fs12, hc13⟩ := hO11.mod
  obtain ⟨f14, p15, t16⟩ := mf_63 hO11 hc13
  have t17 := fI_of hc13 p15
  refine ur_inl rfl (rcv_of hc13) (Nat.le_of_ble_eq_true rfl) (Nat.le_of_ble_eq_true rfl) (sd_X12_places hO11 _ (by show 0 ≤ a1.toInt ∧ a1.toInt ≤ 149; omega) _ (by omega) (by omega) (fun w18 h23 hr19 hO23 hv23 hp20 hp21 hp22 => ?_))
  have hu23 := hv23
  obtain ⟨x24, rfl, f25⟩ := hr19
  show uRun _ (uCall Mt _) _ 11 (_, [(.inl x24)], _, _, _)
  refine ur_svIk [some (.inr (.inr (some 69))), some (.inl a1), some (.inl a2), some (.inl x24)] rfl rfl ?_
  refine ur_ldI rfl rfl ?_
  refine ur_ldA rfl rfl ?_
  refine ur_ldI rfl rfl ?_
  refine ur_push rfl ?_
  obtain ⟨fs26, hc27⟩ := hO23.mod
  obtain ⟨f28, p29, t30⟩ := mf_63 hO23 hc27
  have t31 := fI_of hc27 p29
  refine ur_inl rfl (rcv_of hc27) (Nat.le_of_ble_eq_true rfl) (Nat.le_of_ble_eq_true rfl) (sd_X12_suits hO23 _ (by show 0 ≤ a1.toInt ∧ a1.toInt ≤ 149; omega) _ (by omega) (by omega) (fun w32 h37 hr33 hO37 hv37 hp34 hp35 hp36 => ?_))
  have hu37 := hv37
  obtain ⟨x38, rfl, f39⟩ := hr33
  show uRun _ (uCall Mt _) _ 19 (_, [(.inl x38), (.inl x24)], _, _, _)
  refine ur_binV rfl (fun x40 e41 => ?_)
  have z42 := any_r x24
  have z43 := any_r x38
  obtain ⟨fs44, hc45⟩ := hO37.mod
  obtain ⟨f46, p47, t48⟩ := mf_63 hO37 hc45
  have t49 := fI_of hc45 p47
  have q50 := f25
  have q51 := hp21
  have t52 : gI h11 96 a1.toInt = gI h0 96 a1.toInt := gI_c9 (arI_keep (a := 96) (kd := 0) (n := 150) hO0 hu11 (by decide) rfl (by decide) rfl (by decide) (by decide)) _
  have t53 : gE h11 103 a1.toInt = gE h0 103 a1.toInt := gE_c (arI_keep (a := 103) (kd := 0) (n := 150) hO0 hu11 (by decide) rfl (by decide) rfl (by decide) (by decide)) _
  rw [t52, t53] at q50 q51
  have q54 := f39
  have q55 := hp35
  have t56 : gI h23 96 a1.toInt = gI h0 96 a1.toInt := gI_c9 (arI_keep (a := 96) (kd := 0) (n := 150) hO0 (hu11.tr hu23) (by decide) rfl (by decide) rfl (by decide) (by decide)) _
  have t57 : gE h23 103 a1.toInt = gE h0 103 a1.toInt := gE_c (arI_keep (a := 103) (kd := 0) (n := 150) hO0 (hu11.tr hu23) (by decide) rfl (by decide) rfl (by decide) (by decide)) _
  rw [t56] at q54 q55
  exact ur_ret rfl rfl (hQ _ _ ⟨_, rfl, by unfold mPT; rw [← e41, (f25.trans (by rw [gI_c9 (arI_keep (a := 96) (kd := 0) (n := 150) hO0 hu11 (by decide) rfl (by decide) rfl (by decide) (by decide)) a1.toInt, gE_c (arI_keep (a := 103) (kd := 0) (n := 150) hO0 hu11 (by decide) rfl (by decide) rfl (by decide) (by decide)) a1.toInt])), (f39.trans (by rw [gI_c9 (arI_keep (a := 96) (kd := 0) (n := 150) hO0 (hu11.tr hu23) (by decide) rfl (by decide) rfl (by decide) (by decide)) a1.toInt]))]⟩ hO37 (hu11.tr (hu23.tr hu37)) (by omega) ((hp10.cons (q51.app q55)).c (by unfold mPT; rfl)) (by omega))

set_option maxRecDepth 20000 in
set_option maxHeartbeats 4000000 in
theorem sd_X12_tells {d kc ks : Nat} {h0 : aH} {Q : Option aV → aH → Prop} (hO0 : OK h0) (a1 : Int32) (b1 : 0 ≤ a1.toInt ∧ a1.toInt ≤ 149) (a2 : Int32) (pre0 : 0 ≤ fI h0 63) (pre1 : fI h0 63 ≤ 893000) (hQ : ∀ r h', (∃ x : Int32, r = some (.inl x) ∧ (x = (mT (gI h0 96 a1.toInt) a1 (gE h0 103 a1.toInt) a2).1)) → OK h' → un [109, 7963] h0 h' → (fI h' 63 ≤ fI h0 63 + 11) → (TRa 109 (fI h0 63) (fI h' 63) h0 h' ((mT (gI h0 96 a1.toInt) a1 (gE h0 103 a1.toInt) a2).2)) → (0 ≤ fI h' 63) → Q r h') : uCall Mt (d + 8) 292 [(.inr (.inr (some 69))), (.inl a1), (.inl a2)] h0 kc ks Q := by
  have l_2 : ((2) : Int32).toInt = 2 := by decide
  have l_5 : ((5) : Int32).toInt = 5 := by decide
  have l_7 : ((7) : Int32).toInt = 7 := by decide
  have l_60 : ((60) : Int32).toInt = 60 := by decide
  have l_81 : ((81) : Int32).toInt = 81 := by decide
  refine uc_ink [some (.inr (.inr (some 69))), some (.inl a1), some (.inl a2)] mt_292 (Nat.le_of_ble_eq_true rfl) rfl ?_
  obtain ⟨fs1, hc2⟩ := hO0.mod
  obtain ⟨f3, p4, t5⟩ := mf_63 hO0 hc2
  have t6 := fI_of hc2 p4
  refine ur_ldA rfl rfl ?_
  refine ur_get rfl hc2 (mf_39 hO0 hc2) ?_
  refine ur_ldI rfl rfl ?_
  obtain ⟨xs8, hc7, hn9, he10⟩ := hO0.int (hO0.fix 96 (by decide) rfl)
  refine ur_aldV rfl hc7 hn9 (by omega) (fun x11 hx12 => ?_)
  have t13 := gI_of (j := a1) hc7 hx12
  have t14 : 0 ≤ x11.toInt ∧ x11.toInt ≤ 7 := he10 _ _ hx12
  refine ur_push rfl ?_
  refine ur_if2 rfl (fun c15 => ?_) (fun c15 => ?_)
  · have t16 := ne_to c15
    refine ur_ldA rfl rfl ?_
    refine ur_get rfl hc2 (mf_39 hO0 hc2) ?_
    refine ur_ldI rfl rfl ?_
    refine ur_aldV rfl hc7 hn9 (by omega) (fun x17 hx18 => ?_)
    obtain rfl : x11 = x17 := Option.some.inj (hx12.symm.trans hx18)
    refine ur_push rfl ?_
    refine ur_if2 rfl (fun c19 => ?_) (fun c19 => ?_)
    · have t20 := ne_to c19
      refine ur_ldA rfl rfl ?_
      refine ur_ldI rfl rfl ?_
      refine ur_ldI rfl rfl ?_
      refine ur_inl rfl (rcv_of hc2) (Nat.le_of_ble_eq_true rfl) (Nat.le_of_ble_eq_true rfl) (sd_X12_plainTells hO0 _ (by show 0 ≤ a1.toInt ∧ a1.toInt ≤ 149; omega) _ (by omega) (by omega) (fun w21 h26 hr22 hO26 hv26 hp23 hp24 hp25 => ?_))
      have hu26 := hv26
      obtain ⟨x27, rfl, f28⟩ := hr22
      show uRun _ (uCall Mt _) _ 58 (_, [(.inl x27)], _, _, _)
      obtain ⟨fs29, hc30⟩ := hO26.mod
      obtain ⟨f31, p32, t33⟩ := mf_63 hO26 hc30
      have t34 := fI_of hc30 p32
      have q35 := f28
      have q36 := hp24
      exact ur_ret rfl rfl (hQ _ _ ⟨_, rfl, by unfold mT; rw [if_neg (by omega), if_neg (by omega)]; exact f28⟩ hO26 hu26 (by omega) (q36.c (by unfold mT; rw [if_neg (by omega), if_neg (by omega)] <;> rfl)) (by omega))
    · have t37 := ne_no c19
      refine ur_ldA rfl rfl ?_
      refine ur_push rfl ?_
      refine ur_inl rfl (rcv_of hc2) (Nat.le_of_ble_eq_true rfl) (Nat.le_of_ble_eq_true rfl) (sd_X12_ran hO0 _ (by omega) (by omega) (fun w38 h42 hr39 hO42 hv42 hp40 hp41 => ?_))
      have hu42 := hv42
      subst hr39
      show uRun _ (uCall Mt _) _ 43 (_, [], _, _, _)
      refine ur_ldA rfl rfl ?_
      refine ur_ldI rfl rfl ?_
      refine ur_ldI rfl rfl ?_
      obtain ⟨fs43, hc44⟩ := hO42.mod
      obtain ⟨f45, p46, t47⟩ := mf_63 hO42 hc44
      have t48 := fI_of hc44 p46
      refine ur_inl rfl (rcv_of hc44) (Nat.le_of_ble_eq_true rfl) (Nat.le_of_ble_eq_true rfl) (sd_X12_plainTells hO42 _ (by show 0 ≤ a1.toInt ∧ a1.toInt ≤ 149; omega) _ (by omega) (by omega) (fun w49 h54 hr50 hO54 hv54 hp51 hp52 hp53 => ?_))
      have hu54 := hv54
      obtain ⟨x55, rfl, f56⟩ := hr50
      show uRun _ (uCall Mt _) _ 49 (_, [(.inl x55)], _, _, _)
      refine ur_push rfl ?_
      refine ur_binV rfl (fun x57 e58 => ?_)
      have z59 := any_r x55
      obtain ⟨fs60, hc61⟩ := hO54.mod
      obtain ⟨f62, p63, t64⟩ := mf_63 hO54 hc61
      have t65 := fI_of hc61 p63
      have q66 := f56
      have q67 := hp52
      have t68 : gI h42 96 a1.toInt = gI h0 96 a1.toInt := gI_c9 (arI_keep (a := 96) (kd := 0) (n := 150) hO0 hu42 (by decide) rfl (by decide) rfl (by decide) (by decide)) _
      have t69 : gE h42 103 a1.toInt = gE h0 103 a1.toInt := gE_c (arI_keep (a := 103) (kd := 0) (n := 150) hO0 hu42 (by decide) rfl (by decide) rfl (by decide) (by decide)) _
      rw [t68, t69] at q66 q67
      exact ur_ret rfl rfl (hQ _ _ ⟨_, rfl, by unfold mT; rw [if_neg (by omega), if_pos (by omega)]; rw [← e58, (f56.trans (by rw [gI_c9 (arI_keep (a := 96) (kd := 0) (n := 150) hO0 hu42 (by decide) rfl (by decide) rfl (by decide) (by decide)) a1.toInt, gE_c (arI_keep (a := 103) (kd := 0) (n := 150) hO0 hu42 (by decide) rfl (by decide) rfl (by decide) (by decide)) a1.toInt]))]⟩ hO54 (hu42.tr hu54) (by omega) ((hp41.cons q67).c (by unfold mT; rw [if_neg (by omega), if_pos (by omega)] <;> rfl)) (by omega))
  · have t70 := ne_no c15
    refine ur_ldA rfl rfl ?_
    refine ur_push rfl ?_
    refine ur_inl rfl (rcv_of hc2) (Nat.le_of_ble_eq_true rfl) (Nat.le_of_ble_eq_true rfl) (sd_X12_ran hO0 _ (by omega) (by omega) (fun w71 h75 hr72 hO75 hv75 hp73 hp74 => ?_))
    have hu75 := hv75
    subst hr72
    show uRun _ (uCall Mt _) _ 16 (_, [], _, _, _)
    refine ur_ldA rfl rfl ?_
    refine ur_ldI rfl rfl ?_
    refine ur_ldI rfl rfl ?_
    obtain ⟨fs76, hc77⟩ := hO75.mod
    obtain ⟨f78, p79, t80⟩ := mf_63 hO75 hc77
    have t81 := fI_of hc77 p79
    refine ur_inl rfl (rcv_of hc77) (Nat.le_of_ble_eq_true rfl) (Nat.le_of_ble_eq_true rfl) (sd_X12_plainTells hO75 _ (by show 0 ≤ a1.toInt ∧ a1.toInt ≤ 149; omega) _ (by omega) (by omega) (fun w82 h87 hr83 hO87 hv87 hp84 hp85 hp86 => ?_))
    have hu87 := hv87
    obtain ⟨x88, rfl, f89⟩ := hr83
    show uRun _ (uCall Mt _) _ 22 (_, [(.inl x88)], _, _, _)
    refine ur_push rfl ?_
    refine ur_binV rfl (fun x90 e91 => ?_)
    obtain ⟨fs92, hc93⟩ := hO87.mod
    obtain ⟨f94, p95, t96⟩ := mf_63 hO87 hc93
    have t97 := fI_of hc93 p95
    have q98 := f89
    have q99 := hp85
    have t100 : gI h75 96 a1.toInt = gI h0 96 a1.toInt := gI_c9 (arI_keep (a := 96) (kd := 0) (n := 150) hO0 hu75 (by decide) rfl (by decide) rfl (by decide) (by decide)) _
    have t101 : gE h75 103 a1.toInt = gE h0 103 a1.toInt := gE_c (arI_keep (a := 103) (kd := 0) (n := 150) hO0 hu75 (by decide) rfl (by decide) rfl (by decide) (by decide)) _
    rw [t100, t101] at q98 q99
    exact ur_ret rfl rfl (hQ _ _ ⟨_, rfl, by unfold mT; rw [if_pos (by omega)]; rw [← e91, (f89.trans (by rw [gI_c9 (arI_keep (a := 96) (kd := 0) (n := 150) hO0 hu75 (by decide) rfl (by decide) rfl (by decide) (by decide)) a1.toInt, gE_c (arI_keep (a := 103) (kd := 0) (n := 150) hO0 hu75 (by decide) rfl (by decide) rfl (by decide) (by decide)) a1.toInt]))]⟩ hO87 (hu75.tr hu87) (by omega) ((hp74.cons q99).c (by unfold mT; rw [if_pos (by omega)] <;> rfl)) (by omega))

set_option maxRecDepth 20000 in
set_option maxHeartbeats 4000000 in
theorem sd_X12_act {d kc ks : Nat} {h0 : aH} {Q : Option aV → aH → Prop} (hO0 : OK h0) (a1 : Int32) (a2 : Int32) (a3 : Int32) (hQ : ∀ r h', (∃ x : Int32, r = some (.inl x) ∧ ((¬ ((0 ≤ a1.toInt ∧ a1.toInt < fI h0 38) ∧ 0 ≤ a2.toInt ∧ a2.toInt ≤ 3) → x.toInt = 0 ∧ fI h' 63 = 0) ∧ (((0 ≤ a1.toInt ∧ a1.toInt < fI h0 38) ∧ 0 ≤ a2.toInt ∧ a2.toInt ≤ 3) → x = (mA (gI h0 96 a1.toInt) a1 (gE h0 103 a1.toInt) a2.toInt a3).1 ∧ TRa 109 0 (fI h' 63) h0 h' (mA (gI h0 96 a1.toInt) a1 (gE h0 103 a1.toInt) a2.toInt a3).2))) → OK h' → un [109, 7963] h0 h' → Q r h') : uCall Mt (d + 9) 293 [(.inr (.inr (some 69))), (.inl a1), (.inl a2), (.inl a3)] h0 kc ks Q := by
  have l_0 : ((0) : Int32).toInt = 0 := by decide
  have l_1 : ((1) : Int32).toInt = 1 := by decide
  have l_2 : ((2) : Int32).toInt = 2 := by decide
  have l_3 : ((3) : Int32).toInt = 3 := by decide
  refine uc_ink [some (.inr (.inr (some 69))), some (.inl a1), some (.inl a2), some (.inl a3)] mt_293 (Nat.le_of_ble_eq_true rfl) rfl ?_
  obtain ⟨fs1, hc2⟩ := hO0.mod
  obtain ⟨f3, p4, t5⟩ := mf_38 hO0 hc2
  have t6 := fI_of hc2 p4
  obtain ⟨f7, p8, t9⟩ := mf_63 hO0 hc2
  have t10 := fI_of hc2 p8
  refine ur_ldA rfl rfl ?_
  refine ur_push rfl ?_
  refine ur_putM (W := [7963]) rfl hO0 hc2 (by decide) rfl (ms_63 (hO0.msh hc2) (show 0 ≤ (0 : Int32).toInt ∧ (0 : Int32).toInt ≤ 1000000 by omega)) (Or.inr (by decide)) (fun h12 hO12 hv12 d11 hc13 => ?_)
  have hu12 : un [109, 7963] h0 h12 := hv12.mono (by decide)
  have t14 := fI_of hc13 (gs_ne p4 (by decide))
  have t15 := fI_of hc13 (gs_eq p8)
  refine ur_ldA rfl rfl ?_
  refine ur_ldI rfl rfl ?_
  refine ur_inl rfl (rcv_of hc13) (Nat.le_of_ble_eq_true rfl) (Nat.le_of_ble_eq_true rfl) (sd_X12_isWord hO12 _ (fun w16 hr17 => ?_))
  obtain ⟨b18, rfl, t19, t20⟩ := hr17
  show uRun _ (uCall Mt _) _ 10 (_, [(.inl (bi b18))], _, _, _)
  refine ur_eqB rfl (fun c21 => ?_) (fun c21 => ?_)
  · have t22 := t20 c21
    clear t19 t20
    refine ur_push rfl ?_
    exact ur_ret rfl rfl (hQ _ _ ⟨_, rfl, ⟨fun _ => ⟨by omega, by omega⟩, fun q => by exfalso; omega⟩⟩ hO12 hu12)
  · have t23 := t19 c21
    clear t19 t20
    refine ur_ldI rfl rfl ?_
    refine ur_push rfl ?_
    refine ur_push rfl ?_
    refine ur_callv rfl rfl (Nat.le_of_ble_eq_true rfl) (Nat.le_of_ble_eq_true rfl) rfl (sp_in _ _ _ _ _) ?_
    refine ur_neB rfl (fun c26 => ?_) (fun c26 => ?_)
    · have t27 := wi_toL c26 l_0 l_3
      refine ur_ldI rfl rfl ?_
      refine ur_if1 rfl (fun c28 => ?_) (fun c28 => ?_)
      · have t29 := ne_to c28
        refine ur_ldI rfl rfl ?_
        refine ur_push rfl ?_
        refine ur_if2 rfl (fun c30 => ?_) (fun c30 => ?_)
        · have t31 := ne_to c30
          refine ur_ldI rfl rfl ?_
          refine ur_push rfl ?_
          refine ur_if2 rfl (fun c32 => ?_) (fun c32 => ?_)
          · have t33 := ne_to c32
            refine ur_ldA rfl rfl ?_
            refine ur_ldI rfl rfl ?_
            refine ur_ldI rfl rfl ?_
            refine ur_inl rfl (rcv_of hc13) (Nat.le_of_ble_eq_true rfl) (Nat.le_of_ble_eq_true rfl) (sd_X12_tells hO12 _ (by show 0 ≤ a1.toInt ∧ a1.toInt ≤ 149; omega) _ (by omega) (by omega) (fun w34 h39 hr35 hO39 hv39 hp36 hp37 hp38 => ?_))
            have hu39 := hv39
            obtain ⟨x40, rfl, f41⟩ := hr35
            show uRun _ (uCall Mt _) _ 71 (_, [(.inl x40)], _, _, _)
            obtain ⟨fs42, hc43⟩ := hO39.mod
            obtain ⟨f44, p45, t46⟩ := mf_38 hO39 hc43
            have t47 := fI_of hc43 p45
            obtain ⟨f48, p49, t50⟩ := mf_63 hO39 hc43
            have t51 := fI_of hc43 p49
            have t52 := fI_keep (k := 38) hO12 hO39 hv39 rfl (by decide)
            exact ur_ret rfl rfl (hQ _ _ ⟨_, rfl, ⟨fun q => absurd (by omega) q, fun _ => by unfold mA; rw [if_neg (by omega), if_neg (by omega), if_neg (by omega)]; refine ⟨(f41.trans (by rw [gI_c9 (arI_keep (a := 96) (kd := 0) (n := 150) hO0 hu12 (by decide) rfl (by decide) rfl (by decide) (by decide)) a1.toInt, gE_c (arI_keep (a := 103) (kd := 0) (n := 150) hO0 hu12 (by decide) rfl (by decide) rfl (by decide) (by decide)) a1.toInt])), ?_⟩; have t := hp37; rw [show fI h12 63 = 0 by omega, gI_c9 (arI_keep (a := 96) (kd := 0) (n := 150) hO0 hu12 (by decide) rfl (by decide) rfl (by decide) (by decide)) a1.toInt, gE_c (arI_keep (a := 103) (kd := 0) (n := 150) hO0 hu12 (by decide) rfl (by decide) rfl (by decide) (by decide)) a1.toInt] at t; exact t.b (arI_keep (a := 109) (kd := 0) (n := 24) hO0 hv12 (by decide) rfl (by decide) rfl (by decide) (by decide))⟩⟩ hO39 (hu12.tr hu39))
          · have t53 := ne_no c32
            refine ur_ldA rfl rfl ?_
            refine ur_ldI rfl rfl ?_
            refine ur_ldI rfl rfl ?_
            refine ur_inl rfl (rcv_of hc13) (Nat.le_of_ble_eq_true rfl) (Nat.le_of_ble_eq_true rfl) (sd_X12_suits hO12 _ (by show 0 ≤ a1.toInt ∧ a1.toInt ≤ 149; omega) _ (by omega) (by omega) (fun w54 h59 hr55 hO59 hv59 hp56 hp57 hp58 => ?_))
            have hu59 := hv59
            obtain ⟨x60, rfl, f61⟩ := hr55
            show uRun _ (uCall Mt _) _ 62 (_, [(.inl x60)], _, _, _)
            refine ur_go rfl ?_
            obtain ⟨fs62, hc63⟩ := hO59.mod
            obtain ⟨f64, p65, t66⟩ := mf_38 hO59 hc63
            have t67 := fI_of hc63 p65
            obtain ⟨f68, p69, t70⟩ := mf_63 hO59 hc63
            have t71 := fI_of hc63 p69
            have t72 := fI_keep (k := 38) hO12 hO59 hv59 rfl (by decide)
            exact ur_ret rfl rfl (hQ _ _ ⟨_, rfl, ⟨fun q => absurd (by omega) q, fun _ => by unfold mA; rw [if_neg (by omega), if_neg (by omega), if_pos (by omega)]; refine ⟨(f61.trans (by rw [gI_c9 (arI_keep (a := 96) (kd := 0) (n := 150) hO0 hu12 (by decide) rfl (by decide) rfl (by decide) (by decide)) a1.toInt])), ?_⟩; have t := hp57; rw [show fI h12 63 = 0 by omega, gI_c9 (arI_keep (a := 96) (kd := 0) (n := 150) hO0 hu12 (by decide) rfl (by decide) rfl (by decide) (by decide)) a1.toInt] at t; exact t.b (arI_keep (a := 109) (kd := 0) (n := 24) hO0 hv12 (by decide) rfl (by decide) rfl (by decide) (by decide))⟩⟩ hO59 (hu12.tr hu59))
        · have t73 := ne_no c30
          refine ur_ldA rfl rfl ?_
          refine ur_ldI rfl rfl ?_
          refine ur_ldI rfl rfl ?_
          refine ur_inl rfl (rcv_of hc13) (Nat.le_of_ble_eq_true rfl) (Nat.le_of_ble_eq_true rfl) (sd_X12_places hO12 _ (by show 0 ≤ a1.toInt ∧ a1.toInt ≤ 149; omega) _ (by omega) (by omega) (fun w74 h79 hr75 hO79 hv79 hp76 hp77 hp78 => ?_))
          have hu79 := hv79
          obtain ⟨x80, rfl, f81⟩ := hr75
          show uRun _ (uCall Mt _) _ 48 (_, [(.inl x80)], _, _, _)
          refine ur_go rfl ?_
          obtain ⟨fs82, hc83⟩ := hO79.mod
          obtain ⟨f84, p85, t86⟩ := mf_38 hO79 hc83
          have t87 := fI_of hc83 p85
          obtain ⟨f88, p89, t90⟩ := mf_63 hO79 hc83
          have t91 := fI_of hc83 p89
          have t92 := fI_keep (k := 38) hO12 hO79 hv79 rfl (by decide)
          exact ur_ret rfl rfl (hQ _ _ ⟨_, rfl, ⟨fun q => absurd (by omega) q, fun _ => by unfold mA; rw [if_neg (by omega), if_pos (by omega)]; refine ⟨(f81.trans (by rw [gI_c9 (arI_keep (a := 96) (kd := 0) (n := 150) hO0 hu12 (by decide) rfl (by decide) rfl (by decide) (by decide)) a1.toInt, gE_c (arI_keep (a := 103) (kd := 0) (n := 150) hO0 hu12 (by decide) rfl (by decide) rfl (by decide) (by decide)) a1.toInt])), ?_⟩; have t := hp77; rw [show fI h12 63 = 0 by omega, gI_c9 (arI_keep (a := 96) (kd := 0) (n := 150) hO0 hu12 (by decide) rfl (by decide) rfl (by decide) (by decide)) a1.toInt, gE_c (arI_keep (a := 103) (kd := 0) (n := 150) hO0 hu12 (by decide) rfl (by decide) rfl (by decide) (by decide)) a1.toInt] at t; exact t.b (arI_keep (a := 109) (kd := 0) (n := 24) hO0 hv12 (by decide) rfl (by decide) rfl (by decide) (by decide))⟩⟩ hO79 (hu12.tr hu79))
      · have t93 := ne_no c28
        refine ur_ldA rfl rfl ?_
        refine ur_ldI rfl rfl ?_
        refine ur_ldI rfl rfl ?_
        refine ur_inl rfl (rcv_of hc13) (Nat.le_of_ble_eq_true rfl) (Nat.le_of_ble_eq_true rfl) (sd_X12_dates hO12 _ (by show 0 ≤ a1.toInt ∧ a1.toInt ≤ 149; omega) _ (by omega) (by omega) (fun w94 h99 hr95 hO99 hv99 hp96 hp97 hp98 => ?_))
        have hu99 := hv99
        obtain ⟨x100, rfl, f101⟩ := hr95
        show uRun _ (uCall Mt _) _ 34 (_, [(.inl x100)], _, _, _)
        refine ur_go rfl ?_
        obtain ⟨fs102, hc103⟩ := hO99.mod
        obtain ⟨f104, p105, t106⟩ := mf_38 hO99 hc103
        have t107 := fI_of hc103 p105
        obtain ⟨f108, p109, t110⟩ := mf_63 hO99 hc103
        have t111 := fI_of hc103 p109
        have t112 := fI_keep (k := 38) hO12 hO99 hv99 rfl (by decide)
        exact ur_ret rfl rfl (hQ _ _ ⟨_, rfl, ⟨fun q => absurd (by omega) q, fun _ => by unfold mA; rw [if_pos (by omega)]; refine ⟨(f101.trans (by rw [gI_c9 (arI_keep (a := 96) (kd := 0) (n := 150) hO0 hu12 (by decide) rfl (by decide) rfl (by decide) (by decide)) a1.toInt])), ?_⟩; have t := hp97; rw [show fI h12 63 = 0 by omega, gI_c9 (arI_keep (a := 96) (kd := 0) (n := 150) hO0 hu12 (by decide) rfl (by decide) rfl (by decide) (by decide)) a1.toInt] at t; exact t.b (arI_keep (a := 109) (kd := 0) (n := 24) hO0 hv12 (by decide) rfl (by decide) rfl (by decide) (by decide))⟩⟩ hO99 (hu12.tr hu99))
    · have t113 := wi_noL c26 l_0 l_3
      refine ur_push rfl ?_
      exact ur_ret rfl rfl (hQ _ _ ⟨_, rfl, ⟨fun _ => ⟨by omega, by omega⟩, fun q => by exfalso; omega⟩⟩ hO12 hu12)
end ACM
