/-! CONTRACTS of the reference, the sixth part, printed by program -/
section CT9
set_option maxRecDepth 20000 in
set_option maxHeartbeats 4000000 in
theorem sf_X12_plainDates {d kc ks : Nat} {h0 : aH} {Q : Option aV → aH → Prop} (hO0 : OK h0) (a1 : Int32) (b1 : 0 ≤ a1.toInt ∧ a1.toInt ≤ 149) (a2 : Int32) (pre0 : fI h0 63 ≤ 899000) (hQ : ∀ r h', (∃ x, r = some (.inl x)) → OK h' → un [109, 7963] h0 h' → (fI h' 63 ≤ fI h0 63 + 1) → Q r h') : uCall Mt (d + 2) 284 [(.inr (.inr (some 69))), (.inl a1), (.inl a2)] h0 kc ks Q := by
  have l_1 : ((1) : Int32).toInt = 1 := by decide
  refine uc_ink [some (.inr (.inr (some 69))), some (.inl a1), some (.inl a2)] mt_284 (Nat.le_of_ble_eq_true rfl) rfl ?_
  obtain ⟨fs1, hc2⟩ := hO0.mod
  obtain ⟨f3, p4, t5⟩ := mf_63 hO0 hc2
  have t6 := fI_of hc2 p4
  refine ur_ldA rfl rfl ?_
  refine ur_push rfl ?_
  refine ur_inl rfl (rcv_of hc2) (Nat.le_of_ble_eq_true rfl) (Nat.le_of_ble_eq_true rfl) (sf_X12_ran hO0 _ (by omega) (fun w7 h10 hr8 hO10 hv10 hp9 => ?_))
  have hu10 := hv10
  subst hr8
  show uRun _ (uCall Mt _) _ 5 (_, [], _, _, _)
  refine ur_ldI rfl rfl ?_
  refine ur_ldI rfl rfl ?_
  refine ur_binV rfl (fun x11 e12 => ?_)
  have z13 := any_r a2
  have z14 := any_r a1
  obtain ⟨fs15, hc16⟩ := hO10.mod
  obtain ⟨f17, p18, t19⟩ := mf_63 hO10 hc16
  have t20 := fI_of hc16 p18
  exact ur_ret rfl rfl (hQ _ _ ⟨_, rfl⟩ hO10 hu10 (by omega))

set_option maxRecDepth 20000 in
set_option maxHeartbeats 4000000 in
theorem sf_X12_dates {d kc ks : Nat} {h0 : aH} {Q : Option aV → aH → Prop} (hO0 : OK h0) (a1 : Int32) (b1 : 0 ≤ a1.toInt ∧ a1.toInt ≤ 149) (a2 : Int32) (pre0 : fI h0 63 ≤ 898000) (hQ : ∀ r h', (∃ x, r = some (.inl x)) → OK h' → un [109, 7963] h0 h' → (fI h' 63 ≤ fI h0 63 + 2) → Q r h') : uCall Mt (d + 3) 285 [(.inr (.inr (some 69))), (.inl a1), (.inl a2)] h0 kc ks Q := by
  have l_1 : ((1) : Int32).toInt = 1 := by decide
  have l_3 : ((3) : Int32).toInt = 3 := by decide
  have l_7 : ((7) : Int32).toInt = 7 := by decide
  have l_40 : ((40) : Int32).toInt = 40 := by decide
  have l_80 : ((80) : Int32).toInt = 80 := by decide
  refine uc_ink [some (.inr (.inr (some 69))), some (.inl a1), some (.inl a2)] mt_285 (Nat.le_of_ble_eq_true rfl) rfl ?_
  obtain ⟨fs1, hc2⟩ := hO0.mod
  obtain ⟨f3, p4, t5⟩ := mf_63 hO0 hc2
  have t6 := fI_of hc2 p4
  refine ur_ldA rfl rfl ?_
  refine ur_get rfl hc2 (mf_39 hO0 hc2) ?_
  refine ur_ldI rfl rfl ?_
  obtain ⟨xs8, hc7, hn9, he10⟩ := hO0.int (hO0.fix 96 (by decide) rfl)
  refine ur_aldV rfl hc7 hn9 (by omega) (fun x11 hx12 => ?_)
  have t13 : 0 ≤ x11.toInt ∧ x11.toInt ≤ 7 := he10 _ _ hx12
  refine ur_push rfl ?_
  refine ur_if2 rfl (fun c14 => ?_) (fun c14 => ?_)
  · have t15 := ne_to c14
    refine ur_ldA rfl rfl ?_
    refine ur_get rfl hc2 (mf_39 hO0 hc2) ?_
    refine ur_ldI rfl rfl ?_
    refine ur_aldV rfl hc7 hn9 (by omega) (fun x16 hx17 => ?_)
    obtain rfl : x11 = x16 := Option.some.inj (hx12.symm.trans hx17)
    refine ur_push rfl ?_
    refine ur_if2 rfl (fun c18 => ?_) (fun c18 => ?_)
    · have t19 := ne_to c18
      refine ur_ldA rfl rfl ?_
      refine ur_ldI rfl rfl ?_
      refine ur_ldI rfl rfl ?_
      refine ur_inl rfl (rcv_of hc2) (Nat.le_of_ble_eq_true rfl) (Nat.le_of_ble_eq_true rfl) (sf_X12_plainDates hO0 _ (by show 0 ≤ a1.toInt ∧ a1.toInt ≤ 149; omega) _ (by omega) (fun w20 h23 hr21 hO23 hv23 hp22 => ?_))
      have hu23 := hv23
      obtain ⟨x24, rfl⟩ := hr21
      show uRun _ (uCall Mt _) _ 57 (_, [(.inl x24)], _, _, _)
      obtain ⟨fs25, hc26⟩ := hO23.mod
      obtain ⟨f27, p28, t29⟩ := mf_63 hO23 hc26
      have t30 := fI_of hc26 p28
      exact ur_ret rfl rfl (hQ _ _ ⟨_, rfl⟩ hO23 hu23 (by omega))
    · have t31 := ne_no c18
      refine ur_ldA rfl rfl ?_
      refine ur_push rfl ?_
      refine ur_inl rfl (rcv_of hc2) (Nat.le_of_ble_eq_true rfl) (Nat.le_of_ble_eq_true rfl) (sf_X12_ran hO0 _ (by omega) (fun w32 h35 hr33 hO35 hv35 hp34 => ?_))
      have hu35 := hv35
      subst hr33
      show uRun _ (uCall Mt _) _ 42 (_, [], _, _, _)
      refine ur_ldA rfl rfl ?_
      refine ur_ldI rfl rfl ?_
      refine ur_ldI rfl rfl ?_
      refine ur_push rfl ?_
      refine ur_binV rfl (fun x36 e37 => ?_)
      have z38 := any_r a2
      obtain ⟨fs39, hc40⟩ := hO35.mod
      obtain ⟨f41, p42, t43⟩ := mf_63 hO35 hc40
      have t44 := fI_of hc40 p42
      refine ur_inl rfl (rcv_of hc40) (Nat.le_of_ble_eq_true rfl) (Nat.le_of_ble_eq_true rfl) (sf_X12_plainDates hO35 _ (by show 0 ≤ a1.toInt ∧ a1.toInt ≤ 149; omega) _ (by omega) (fun w45 h48 hr46 hO48 hv48 hp47 => ?_))
      have hu48 := hv48
      obtain ⟨x49, rfl⟩ := hr46
      show uRun _ (uCall Mt _) _ 50 (_, [(.inl x49)], _, _, _)
      obtain ⟨fs50, hc51⟩ := hO48.mod
      obtain ⟨f52, p53, t54⟩ := mf_63 hO48 hc51
      have t55 := fI_of hc51 p53
      exact ur_ret rfl rfl (hQ _ _ ⟨_, rfl⟩ hO48 (hu35.tr hu48) (by omega))
  · have t56 := ne_no c14
    refine ur_ldA rfl rfl ?_
    refine ur_push rfl ?_
    refine ur_inl rfl (rcv_of hc2) (Nat.le_of_ble_eq_true rfl) (Nat.le_of_ble_eq_true rfl) (sf_X12_ran hO0 _ (by omega) (fun w57 h60 hr58 hO60 hv60 hp59 => ?_))
    have hu60 := hv60
    subst hr58
    show uRun _ (uCall Mt _) _ 16 (_, [], _, _, _)
    refine ur_ldA rfl rfl ?_
    refine ur_ldI rfl rfl ?_
    refine ur_ldI rfl rfl ?_
    obtain ⟨fs61, hc62⟩ := hO60.mod
    obtain ⟨f63, p64, t65⟩ := mf_63 hO60 hc62
    have t66 := fI_of hc62 p64
    refine ur_inl rfl (rcv_of hc62) (Nat.le_of_ble_eq_true rfl) (Nat.le_of_ble_eq_true rfl) (sf_X12_plainDates hO60 _ (by show 0 ≤ a1.toInt ∧ a1.toInt ≤ 149; omega) _ (by omega) (fun w67 h70 hr68 hO70 hv70 hp69 => ?_))
    have hu70 := hv70
    obtain ⟨x71, rfl⟩ := hr68
    show uRun _ (uCall Mt _) _ 22 (_, [(.inl x71)], _, _, _)
    refine ur_push rfl ?_
    refine ur_binV rfl (fun x72 e73 => ?_)
    have z74 := any_r x71
    obtain ⟨fs75, hc76⟩ := hO70.mod
    obtain ⟨f77, p78, t79⟩ := mf_63 hO70 hc76
    have t80 := fI_of hc76 p78
    exact ur_ret rfl rfl (hQ _ _ ⟨_, rfl⟩ hO70 (hu60.tr hu70) (by omega))

set_option maxRecDepth 20000 in
set_option maxHeartbeats 4000000 in
theorem sf_X12_plainPlaces {d kc ks : Nat} {h0 : aH} {Q : Option aV → aH → Prop} (hO0 : OK h0) (a1 : Int32) (b1 : 0 ≤ a1.toInt ∧ a1.toInt ≤ 149) (a2 : Int32) (pre0 : fI h0 63 ≤ 897000) (hQ : ∀ r h', (∃ x, r = some (.inl x)) → OK h' → un [109, 7963] h0 h' → (fI h' 63 ≤ fI h0 63 + 3) → Q r h') : uCall Mt (d + 4) 286 [(.inr (.inr (some 69))), (.inl a1), (.inl a2)] h0 kc ks Q := by
  have l_2 : ((2) : Int32).toInt = 2 := by decide
  have l_10 : ((10) : Int32).toInt = 10 := by decide
  refine uc_ink [some (.inr (.inr (some 69))), some (.inl a1), some (.inl a2)] mt_286 (Nat.le_of_ble_eq_true rfl) rfl ?_
  obtain ⟨fs1, hc2⟩ := hO0.mod
  obtain ⟨f3, p4, t5⟩ := mf_63 hO0 hc2
  have t6 := fI_of hc2 p4
  refine ur_ldA rfl rfl ?_
  refine ur_push rfl ?_
  refine ur_inl rfl (rcv_of hc2) (Nat.le_of_ble_eq_true rfl) (Nat.le_of_ble_eq_true rfl) (sf_X12_ran hO0 _ (by omega) (fun w7 h10 hr8 hO10 hv10 hp9 => ?_))
  have hu10 := hv10
  subst hr8
  show uRun _ (uCall Mt _) _ 6 (_, [], _, _, _)
  refine ur_ldA rfl rfl ?_
  refine ur_ldI rfl rfl ?_
  refine ur_ldI rfl rfl ?_
  obtain ⟨fs11, hc12⟩ := hO10.mod
  obtain ⟨f13, p14, t15⟩ := mf_63 hO10 hc12
  have t16 := fI_of hc12 p14
  refine ur_inl rfl (rcv_of hc12) (Nat.le_of_ble_eq_true rfl) (Nat.le_of_ble_eq_true rfl) (sf_X12_dates hO10 _ (by show 0 ≤ a1.toInt ∧ a1.toInt ≤ 149; omega) _ (by omega) (fun w17 h20 hr18 hO20 hv20 hp19 => ?_))
  have hu20 := hv20
  obtain ⟨x21, rfl⟩ := hr18
  show uRun _ (uCall Mt _) _ 12 (_, [(.inl x21)], _, _, _)
  refine ur_push rfl ?_
  refine ur_binV rfl (fun x22 e23 => ?_)
  have z24 := any_r x21
  obtain ⟨fs25, hc26⟩ := hO20.mod
  obtain ⟨f27, p28, t29⟩ := mf_63 hO20 hc26
  have t30 := fI_of hc26 p28
  exact ur_ret rfl rfl (hQ _ _ ⟨_, rfl⟩ hO20 (hu10.tr hu20) (by omega))

set_option maxRecDepth 20000 in
set_option maxHeartbeats 4000000 in
theorem sf_X12_placedPlaces {d kc ks : Nat} {h0 : aH} {Q : Option aV → aH → Prop} (hO0 : OK h0) (a1 : Int32) (b1 : 0 ≤ a1.toInt ∧ a1.toInt ≤ 149) (a2 : Int32) (pre0 : fI h0 63 ≤ 896000) (hQ : ∀ r h', (∃ x, r = some (.inl x)) → OK h' → un [109, 7963] h0 h' → (fI h' 63 ≤ fI h0 63 + 4) → Q r h') : uCall Mt (d + 5) 287 [(.inr (.inr (some 69))), (.inl a1), (.inl a2)] h0 kc ks Q := by
  have l_20 : ((20) : Int32).toInt = 20 := by decide
  refine uc_ink [some (.inr (.inr (some 69))), some (.inl a1), some (.inl a2)] mt_287 (Nat.le_of_ble_eq_true rfl) rfl ?_
  obtain ⟨fs1, hc2⟩ := hO0.mod
  obtain ⟨f3, p4, t5⟩ := mf_63 hO0 hc2
  have t6 := fI_of hc2 p4
  refine ur_ldA rfl rfl ?_
  refine ur_push rfl ?_
  refine ur_inl rfl (rcv_of hc2) (Nat.le_of_ble_eq_true rfl) (Nat.le_of_ble_eq_true rfl) (sf_X12_ran hO0 _ (by omega) (fun w7 h10 hr8 hO10 hv10 hp9 => ?_))
  have hu10 := hv10
  subst hr8
  show uRun _ (uCall Mt _) _ 6 (_, [], _, _, _)
  refine ur_ldA rfl rfl ?_
  refine ur_ldI rfl rfl ?_
  refine ur_ldI rfl rfl ?_
  obtain ⟨fs11, hc12⟩ := hO10.mod
  obtain ⟨f13, p14, t15⟩ := mf_63 hO10 hc12
  have t16 := fI_of hc12 p14
  refine ur_inl rfl (rcv_of hc12) (Nat.le_of_ble_eq_true rfl) (Nat.le_of_ble_eq_true rfl) (sf_X12_plainPlaces hO10 _ (by show 0 ≤ a1.toInt ∧ a1.toInt ≤ 149; omega) _ (by omega) (fun w17 h20 hr18 hO20 hv20 hp19 => ?_))
  have hu20 := hv20
  obtain ⟨x21, rfl⟩ := hr18
  show uRun _ (uCall Mt _) _ 12 (_, [(.inl x21)], _, _, _)
  refine ur_ldA rfl rfl ?_
  obtain ⟨fs22, hc23⟩ := hO20.mod
  refine ur_get rfl hc23 (mf_46 hO20 hc23) ?_
  refine ur_ldI rfl rfl ?_
  obtain ⟨xs25, hc24, hn26, he27⟩ := hO20.int (hO20.fix 103 (by decide) rfl)
  refine ur_aldV rfl hc24 hn26 (by omega) (fun x28 hx29 => ?_)
  have t30 : -1 ≤ x28.toInt ∧ x28.toInt ≤ 149 := he27 _ _ hx29
  refine ur_binV rfl (fun x31 e32 => ?_)
  have z33 := any_r x21
  have z34 := any_r x28
  obtain ⟨f35, p36, t37⟩ := mf_63 hO20 hc23
  have t38 := fI_of hc23 p36
  exact ur_ret rfl rfl (hQ _ _ ⟨_, rfl⟩ hO20 (hu10.tr hu20) (by omega))

set_option maxRecDepth 20000 in
set_option maxHeartbeats 4000000 in
theorem sf_X12_plainSuits {d kc ks : Nat} {h0 : aH} {Q : Option aV → aH → Prop} (hO0 : OK h0) (a1 : Int32) (b1 : 0 ≤ a1.toInt ∧ a1.toInt ≤ 149) (a2 : Int32) (pre0 : fI h0 63 ≤ 899000) (hQ : ∀ r h', (∃ x, r = some (.inl x)) → OK h' → un [109, 7963] h0 h' → (fI h' 63 ≤ fI h0 63 + 1) → Q r h') : uCall Mt (d + 2) 289 [(.inr (.inr (some 69))), (.inl a1), (.inl a2)] h0 kc ks Q := by
  have l_11 : ((11) : Int32).toInt = 11 := by decide
  refine uc_ink [some (.inr (.inr (some 69))), some (.inl a1), some (.inl a2)] mt_289 (Nat.le_of_ble_eq_true rfl) rfl ?_
  obtain ⟨fs1, hc2⟩ := hO0.mod
  obtain ⟨f3, p4, t5⟩ := mf_63 hO0 hc2
  have t6 := fI_of hc2 p4
  refine ur_ldA rfl rfl ?_
  refine ur_push rfl ?_
  refine ur_inl rfl (rcv_of hc2) (Nat.le_of_ble_eq_true rfl) (Nat.le_of_ble_eq_true rfl) (sf_X12_ran hO0 _ (by omega) (fun w7 h10 hr8 hO10 hv10 hp9 => ?_))
  have hu10 := hv10
  subst hr8
  show uRun _ (uCall Mt _) _ 6 (_, [], _, _, _)
  refine ur_ldI rfl rfl ?_
  refine ur_ldI rfl rfl ?_
  refine ur_binV rfl (fun x11 e12 => ?_)
  obtain ⟨fs13, hc14⟩ := hO10.mod
  obtain ⟨f15, p16, t17⟩ := mf_63 hO10 hc14
  have t18 := fI_of hc14 p16
  exact ur_ret rfl rfl (hQ _ _ ⟨_, rfl⟩ hO10 hu10 (by omega))

set_option maxRecDepth 20000 in
set_option maxHeartbeats 4000000 in
theorem sf_X12_suits {d kc ks : Nat} {h0 : aH} {Q : Option aV → aH → Prop} (hO0 : OK h0) (a1 : Int32) (b1 : 0 ≤ a1.toInt ∧ a1.toInt ≤ 149) (a2 : Int32) (pre0 : fI h0 63 ≤ 898000) (hQ : ∀ r h', (∃ x, r = some (.inl x)) → OK h' → un [109, 7963] h0 h' → (fI h' 63 ≤ fI h0 63 + 2) → Q r h') : uCall Mt (d + 3) 290 [(.inr (.inr (some 69))), (.inl a1), (.inl a2)] h0 kc ks Q := by
  have l_3 : ((3) : Int32).toInt = 3 := by decide
  have l_4 : ((4) : Int32).toInt = 4 := by decide
  have l_30 : ((30) : Int32).toInt = 30 := by decide
  have l_50 : ((50) : Int32).toInt = 50 := by decide
  refine uc_ink [some (.inr (.inr (some 69))), some (.inl a1), some (.inl a2)] mt_290 (Nat.le_of_ble_eq_true rfl) rfl ?_
  obtain ⟨fs1, hc2⟩ := hO0.mod
  obtain ⟨f3, p4, t5⟩ := mf_63 hO0 hc2
  have t6 := fI_of hc2 p4
  refine ur_ldA rfl rfl ?_
  refine ur_get rfl hc2 (mf_39 hO0 hc2) ?_
  refine ur_ldI rfl rfl ?_
  obtain ⟨xs8, hc7, hn9, he10⟩ := hO0.int (hO0.fix 96 (by decide) rfl)
  refine ur_aldV rfl hc7 hn9 (by omega) (fun x11 hx12 => ?_)
  have t13 : 0 ≤ x11.toInt ∧ x11.toInt ≤ 7 := he10 _ _ hx12
  refine ur_inl rfl rfl (Nat.le_of_ble_eq_true rfl) (Nat.le_of_ble_eq_true rfl) (sf_X12_isSided _ (fun w14 hr15 => ?_))
  obtain ⟨b16, rfl⟩ := hr15
  show uRun _ (uCall Mt _) _ 9 (_, [(.inl (bi b16))], _, _, _)
  refine ur_eqB rfl (fun c17 => ?_) (fun c17 => ?_)
  · refine ur_ldA rfl rfl ?_
    refine ur_get rfl hc2 (mf_39 hO0 hc2) ?_
    refine ur_ldI rfl rfl ?_
    refine ur_aldV rfl hc7 hn9 (by omega) (fun x18 hx19 => ?_)
    obtain rfl : x11 = x18 := Option.some.inj (hx12.symm.trans hx19)
    refine ur_push rfl ?_
    refine ur_if2 rfl (fun c20 => ?_) (fun c20 => ?_)
    · have t21 := ne_to c20
      refine ur_ldA rfl rfl ?_
      refine ur_ldI rfl rfl ?_
      refine ur_ldI rfl rfl ?_
      refine ur_inl rfl (rcv_of hc2) (Nat.le_of_ble_eq_true rfl) (Nat.le_of_ble_eq_true rfl) (sf_X12_plainSuits hO0 _ (by show 0 ≤ a1.toInt ∧ a1.toInt ≤ 149; omega) _ (by omega) (fun w22 h25 hr23 hO25 hv25 hp24 => ?_))
      have hu25 := hv25
      obtain ⟨x26, rfl⟩ := hr23
      show uRun _ (uCall Mt _) _ 57 (_, [(.inl x26)], _, _, _)
      obtain ⟨fs27, hc28⟩ := hO25.mod
      obtain ⟨f29, p30, t31⟩ := mf_63 hO25 hc28
      have t32 := fI_of hc28 p30
      exact ur_ret rfl rfl (hQ _ _ ⟨_, rfl⟩ hO25 hu25 (by omega))
    · have t33 := ne_no c20
      refine ur_ldA rfl rfl ?_
      refine ur_push rfl ?_
      refine ur_inl rfl (rcv_of hc2) (Nat.le_of_ble_eq_true rfl) (Nat.le_of_ble_eq_true rfl) (sf_X12_ran hO0 _ (by omega) (fun w34 h37 hr35 hO37 hv37 hp36 => ?_))
      have hu37 := hv37
      subst hr35
      show uRun _ (uCall Mt _) _ 43 (_, [], _, _, _)
      refine ur_ldA rfl rfl ?_
      refine ur_ldI rfl rfl ?_
      refine ur_ldI rfl rfl ?_
      obtain ⟨fs38, hc39⟩ := hO37.mod
      obtain ⟨f40, p41, t42⟩ := mf_63 hO37 hc39
      have t43 := fI_of hc39 p41
      refine ur_inl rfl (rcv_of hc39) (Nat.le_of_ble_eq_true rfl) (Nat.le_of_ble_eq_true rfl) (sf_X12_plainSuits hO37 _ (by show 0 ≤ a1.toInt ∧ a1.toInt ≤ 149; omega) _ (by omega) (fun w44 h47 hr45 hO47 hv47 hp46 => ?_))
      have hu47 := hv47
      obtain ⟨x48, rfl⟩ := hr45
      show uRun _ (uCall Mt _) _ 49 (_, [(.inl x48)], _, _, _)
      refine ur_unV rfl (fun x49 e50 => ?_)
      have z51 := any_r x48
      obtain ⟨fs52, hc53⟩ := hO47.mod
      obtain ⟨f54, p55, t56⟩ := mf_63 hO47 hc53
      have t57 := fI_of hc53 p55
      exact ur_ret rfl rfl (hQ _ _ ⟨_, rfl⟩ hO47 (hu37.tr hu47) (by omega))
  · refine ur_ldA rfl rfl ?_
    refine ur_push rfl ?_
    refine ur_inl rfl (rcv_of hc2) (Nat.le_of_ble_eq_true rfl) (Nat.le_of_ble_eq_true rfl) (sf_X12_ran hO0 _ (by omega) (fun w58 h61 hr59 hO61 hv61 hp60 => ?_))
    have hu61 := hv61
    subst hr59
    show uRun _ (uCall Mt _) _ 18 (_, [], _, _, _)
    refine ur_ldA rfl rfl ?_
    refine ur_ldI rfl rfl ?_
    refine ur_ldI rfl rfl ?_
    obtain ⟨fs62, hc63⟩ := hO61.mod
    obtain ⟨f64, p65, t66⟩ := mf_63 hO61 hc63
    have t67 := fI_of hc63 p65
    refine ur_inl rfl (rcv_of hc63) (Nat.le_of_ble_eq_true rfl) (Nat.le_of_ble_eq_true rfl) (sf_X12_plainSuits hO61 _ (by show 0 ≤ a1.toInt ∧ a1.toInt ≤ 149; omega) _ (by omega) (fun w68 h71 hr69 hO71 hv71 hp70 => ?_))
    have hu71 := hv71
    obtain ⟨x72, rfl⟩ := hr69
    show uRun _ (uCall Mt _) _ 24 (_, [(.inl x72)], _, _, _)
    refine ur_push rfl ?_
    refine ur_binV rfl (fun x73 e74 => ?_)
    have z75 := any_r x72
    obtain ⟨fs76, hc77⟩ := hO71.mod
    obtain ⟨f78, p79, t80⟩ := mf_63 hO71 hc77
    have t81 := fI_of hc77 p79
    exact ur_ret rfl rfl (hQ _ _ ⟨_, rfl⟩ hO71 (hu61.tr hu71) (by omega))

set_option maxRecDepth 20000 in
set_option maxHeartbeats 4000000 in
theorem sf_X12_places {d kc ks : Nat} {h0 : aH} {Q : Option aV → aH → Prop} (hO0 : OK h0) (a1 : Int32) (b1 : 0 ≤ a1.toInt ∧ a1.toInt ≤ 149) (a2 : Int32) (pre0 : fI h0 63 ≤ 895000) (hQ : ∀ r h', (∃ x, r = some (.inl x)) → OK h' → un [109, 7963] h0 h' → (fI h' 63 ≤ fI h0 63 + 7) → Q r h') : uCall Mt (d + 6) 288 [(.inr (.inr (some 69))), (.inl a1), (.inl a2)] h0 kc ks Q := by
  have l_1 : ((1) : Int32).toInt = 1 := by decide
  have l_2 : ((2) : Int32).toInt = 2 := by decide
  have l_6 : ((6) : Int32).toInt = 6 := by decide
  have l_70 : ((70) : Int32).toInt = 70 := by decide
  refine uc_ink [some (.inr (.inr (some 69))), some (.inl a1), some (.inl a2), none] mt_288 (Nat.le_of_ble_eq_true rfl) rfl ?_
  obtain ⟨fs1, hc2⟩ := hO0.mod
  obtain ⟨f3, p4, t5⟩ := mf_63 hO0 hc2
  have t6 := fI_of hc2 p4
  refine ur_ldA rfl rfl ?_
  refine ur_get rfl hc2 (mf_39 hO0 hc2) ?_
  refine ur_ldI rfl rfl ?_
  obtain ⟨xs8, hc7, hn9, he10⟩ := hO0.int (hO0.fix 96 (by decide) rfl)
  refine ur_aldV rfl hc7 hn9 (by omega) (fun x11 hx12 => ?_)
  have t13 : 0 ≤ x11.toInt ∧ x11.toInt ≤ 7 := he10 _ _ hx12
  refine ur_push rfl ?_
  refine ur_if2 rfl (fun c14 => ?_) (fun c14 => ?_)
  · have t15 := ne_to c14
    refine ur_ldA rfl rfl ?_
    refine ur_get rfl hc2 (mf_39 hO0 hc2) ?_
    refine ur_ldI rfl rfl ?_
    refine ur_aldV rfl hc7 hn9 (by omega) (fun x16 hx17 => ?_)
    obtain rfl : x11 = x16 := Option.some.inj (hx12.symm.trans hx17)
    refine ur_push rfl ?_
    refine ur_if2 rfl (fun c18 => ?_) (fun c18 => ?_)
    · have t19 := ne_to c18
      refine ur_ldA rfl rfl ?_
      refine ur_ldI rfl rfl ?_
      refine ur_ldI rfl rfl ?_
      refine ur_inl rfl (rcv_of hc2) (Nat.le_of_ble_eq_true rfl) (Nat.le_of_ble_eq_true rfl) (sf_X12_plainPlaces hO0 _ (by show 0 ≤ a1.toInt ∧ a1.toInt ≤ 149; omega) _ (by omega) (fun w20 h23 hr21 hO23 hv23 hp22 => ?_))
      have hu23 := hv23
      obtain ⟨x24, rfl⟩ := hr21
      show uRun _ (uCall Mt _) _ 58 (_, [(.inl x24)], _, _, _)
      obtain ⟨fs25, hc26⟩ := hO23.mod
      obtain ⟨f27, p28, t29⟩ := mf_63 hO23 hc26
      have t30 := fI_of hc26 p28
      exact ur_ret rfl rfl (hQ _ _ ⟨_, rfl⟩ hO23 hu23 (by omega))
    · have t31 := ne_no c18
      refine ur_ldA rfl rfl ?_
      refine ur_ldI rfl rfl ?_
      refine ur_ldI rfl rfl ?_
      refine ur_inl rfl (rcv_of hc2) (Nat.le_of_ble_eq_true rfl) (Nat.le_of_ble_eq_true rfl) (sf_X12_placedPlaces hO0 _ (by show 0 ≤ a1.toInt ∧ a1.toInt ≤ 149; omega) _ (by omega) (fun w32 h35 hr33 hO35 hv35 hp34 => ?_))
      have hu35 := hv35
      obtain ⟨x36, rfl⟩ := hr33
      show uRun _ (uCall Mt _) _ 49 (_, [(.inl x36)], _, _, _)
      refine ur_go rfl ?_
      obtain ⟨fs37, hc38⟩ := hO35.mod
      obtain ⟨f39, p40, t41⟩ := mf_63 hO35 hc38
      have t42 := fI_of hc38 p40
      exact ur_ret rfl rfl (hQ _ _ ⟨_, rfl⟩ hO35 hu35 (by omega))
  · have t43 := ne_no c14
    refine ur_ldA rfl rfl ?_
    refine ur_push rfl ?_
    refine ur_inl rfl (rcv_of hc2) (Nat.le_of_ble_eq_true rfl) (Nat.le_of_ble_eq_true rfl) (sf_X12_ran hO0 _ (by omega) (fun w44 h47 hr45 hO47 hv47 hp46 => ?_))
    have hu47 := hv47
    subst hr45
    show uRun _ (uCall Mt _) _ 17 (_, [], _, _, _)
    refine ur_ldA rfl rfl ?_
    refine ur_ldI rfl rfl ?_
    refine ur_ldI rfl rfl ?_
    obtain ⟨fs48, hc49⟩ := hO47.mod
    obtain ⟨f50, p51, t52⟩ := mf_63 hO47 hc49
    have t53 := fI_of hc49 p51
    refine ur_inl rfl (rcv_of hc49) (Nat.le_of_ble_eq_true rfl) (Nat.le_of_ble_eq_true rfl) (sf_X12_placedPlaces hO47 _ (by show 0 ≤ a1.toInt ∧ a1.toInt ≤ 149; omega) _ (by omega) (fun w54 h57 hr55 hO57 hv57 hp56 => ?_))
    have hu57 := hv57
    obtain ⟨x58, rfl⟩ := hr55
    show uRun _ (uCall Mt _) _ 23 (_, [(.inl x58)], _, _, _)
    refine ur_svIk [some (.inr (.inr (some 69))), some (.inl a1), some (.inl a2), some (.inl x58)] rfl rfl ?_
    refine ur_ldI rfl rfl ?_
    refine ur_ldA rfl rfl ?_
    refine ur_ldI rfl rfl ?_
    refine ur_push rfl ?_
    obtain ⟨fs59, hc60⟩ := hO57.mod
    obtain ⟨f61, p62, t63⟩ := mf_63 hO57 hc60
    have t64 := fI_of hc60 p62
    refine ur_inl rfl (rcv_of hc60) (Nat.le_of_ble_eq_true rfl) (Nat.le_of_ble_eq_true rfl) (sf_X12_suits hO57 _ (by show 0 ≤ a1.toInt ∧ a1.toInt ≤ 149; omega) _ (by omega) (fun w65 h68 hr66 hO68 hv68 hp67 => ?_))
    have hu68 := hv68
    obtain ⟨x69, rfl⟩ := hr66
    show uRun _ (uCall Mt _) _ 31 (_, [(.inl x69), (.inl x58)], _, _, _)
    refine ur_binV rfl (fun x70 e71 => ?_)
    have z72 := any_r x58
    have z73 := any_r x69
    obtain ⟨fs74, hc75⟩ := hO68.mod
    obtain ⟨f76, p77, t78⟩ := mf_63 hO68 hc75
    have t79 := fI_of hc75 p77
    exact ur_ret rfl rfl (hQ _ _ ⟨_, rfl⟩ hO68 (hu47.tr (hu57.tr hu68)) (by omega))

set_option maxRecDepth 20000 in
set_option maxHeartbeats 4000000 in
theorem sf_X12_plainTells {d kc ks : Nat} {h0 : aH} {Q : Option aV → aH → Prop} (hO0 : OK h0) (a1 : Int32) (b1 : 0 ≤ a1.toInt ∧ a1.toInt ≤ 149) (a2 : Int32) (pre0 : fI h0 63 ≤ 894000) (hQ : ∀ r h', (∃ x, r = some (.inl x)) → OK h' → un [109, 7963] h0 h' → (fI h' 63 ≤ fI h0 63 + 10) → Q r h') : uCall Mt (d + 7) 291 [(.inr (.inr (some 69))), (.inl a1), (.inl a2)] h0 kc ks Q := by
  have l_1 : ((1) : Int32).toInt = 1 := by decide
  have l_2 : ((2) : Int32).toInt = 2 := by decide
  refine uc_ink [some (.inr (.inr (some 69))), some (.inl a1), some (.inl a2), none] mt_291 (Nat.le_of_ble_eq_true rfl) rfl ?_
  obtain ⟨fs1, hc2⟩ := hO0.mod
  obtain ⟨f3, p4, t5⟩ := mf_63 hO0 hc2
  have t6 := fI_of hc2 p4
  refine ur_ldA rfl rfl ?_
  refine ur_push rfl ?_
  refine ur_inl rfl (rcv_of hc2) (Nat.le_of_ble_eq_true rfl) (Nat.le_of_ble_eq_true rfl) (sf_X12_ran hO0 _ (by omega) (fun w7 h10 hr8 hO10 hv10 hp9 => ?_))
  have hu10 := hv10
  subst hr8
  show uRun _ (uCall Mt _) _ 5 (_, [], _, _, _)
  refine ur_ldA rfl rfl ?_
  refine ur_ldI rfl rfl ?_
  refine ur_ldI rfl rfl ?_
  obtain ⟨fs11, hc12⟩ := hO10.mod
  obtain ⟨f13, p14, t15⟩ := mf_63 hO10 hc12
  have t16 := fI_of hc12 p14
  refine ur_inl rfl (rcv_of hc12) (Nat.le_of_ble_eq_true rfl) (Nat.le_of_ble_eq_true rfl) (sf_X12_places hO10 _ (by show 0 ≤ a1.toInt ∧ a1.toInt ≤ 149; omega) _ (by omega) (fun w17 h20 hr18 hO20 hv20 hp19 => ?_))
  have hu20 := hv20
  obtain ⟨x21, rfl⟩ := hr18
  show uRun _ (uCall Mt _) _ 11 (_, [(.inl x21)], _, _, _)
  refine ur_svIk [some (.inr (.inr (some 69))), some (.inl a1), some (.inl a2), some (.inl x21)] rfl rfl ?_
  refine ur_ldI rfl rfl ?_
  refine ur_ldA rfl rfl ?_
  refine ur_ldI rfl rfl ?_
  refine ur_push rfl ?_
  obtain ⟨fs22, hc23⟩ := hO20.mod
  obtain ⟨f24, p25, t26⟩ := mf_63 hO20 hc23
  have t27 := fI_of hc23 p25
  refine ur_inl rfl (rcv_of hc23) (Nat.le_of_ble_eq_true rfl) (Nat.le_of_ble_eq_true rfl) (sf_X12_suits hO20 _ (by show 0 ≤ a1.toInt ∧ a1.toInt ≤ 149; omega) _ (by omega) (fun w28 h31 hr29 hO31 hv31 hp30 => ?_))
  have hu31 := hv31
  obtain ⟨x32, rfl⟩ := hr29
  show uRun _ (uCall Mt _) _ 19 (_, [(.inl x32), (.inl x21)], _, _, _)
  refine ur_binV rfl (fun x33 e34 => ?_)
  have z35 := any_r x21
  have z36 := any_r x32
  obtain ⟨fs37, hc38⟩ := hO31.mod
  obtain ⟨f39, p40, t41⟩ := mf_63 hO31 hc38
  have t42 := fI_of hc38 p40
  exact ur_ret rfl rfl (hQ _ _ ⟨_, rfl⟩ hO31 (hu10.tr (hu20.tr hu31)) (by omega))

set_option maxRecDepth 20000 in
set_option maxHeartbeats 4000000 in
theorem sf_X12_tells {d kc ks : Nat} {h0 : aH} {Q : Option aV → aH → Prop} (hO0 : OK h0) (a1 : Int32) (b1 : 0 ≤ a1.toInt ∧ a1.toInt ≤ 149) (a2 : Int32) (pre0 : fI h0 63 ≤ 893000) (hQ : ∀ r h', (∃ x, r = some (.inl x)) → OK h' → un [109, 7963] h0 h' → (fI h' 63 ≤ fI h0 63 + 11) → Q r h') : uCall Mt (d + 8) 292 [(.inr (.inr (some 69))), (.inl a1), (.inl a2)] h0 kc ks Q := by
  have l_2 : ((2) : Int32).toInt = 2 := by decide
  have l_5 : ((5) : Int32).toInt = 5 := by decide
  have l_7 : ((7) : Int32).toInt = 7 := by decide
  have l_60 : ((60) : Int32).toInt = 60 := by decide
  have l_81 : ((81) : Int32).toInt = 81 := by decide
  refine uc_ink [some (.inr (.inr (some 69))), some (.inl a1), some (.inl a2)] mt_292 (Nat.le_of_ble_eq_true rfl) rfl ?_
  obtain ⟨fs1, hc2⟩ := hO0.mod
  obtain ⟨f3, p4, t5⟩ := mf_63 hO0 hc2
  have t6 := fI_of hc2 p4
  refine ur_ldA rfl rfl ?_
  refine ur_get rfl hc2 (mf_39 hO0 hc2) ?_
  refine ur_ldI rfl rfl ?_
  obtain ⟨xs8, hc7, hn9, he10⟩ := hO0.int (hO0.fix 96 (by decide) rfl)
  refine ur_aldV rfl hc7 hn9 (by omega) (fun x11 hx12 => ?_)
  have t13 : 0 ≤ x11.toInt ∧ x11.toInt ≤ 7 := he10 _ _ hx12
  refine ur_push rfl ?_
  refine ur_if2 rfl (fun c14 => ?_) (fun c14 => ?_)
  · have t15 := ne_to c14
    refine ur_ldA rfl rfl ?_
    refine ur_get rfl hc2 (mf_39 hO0 hc2) ?_
    refine ur_ldI rfl rfl ?_
    refine ur_aldV rfl hc7 hn9 (by omega) (fun x16 hx17 => ?_)
    obtain rfl : x11 = x16 := Option.some.inj (hx12.symm.trans hx17)
    refine ur_push rfl ?_
    refine ur_if2 rfl (fun c18 => ?_) (fun c18 => ?_)
    · have t19 := ne_to c18
      refine ur_ldA rfl rfl ?_
      refine ur_ldI rfl rfl ?_
      refine ur_ldI rfl rfl ?_
      refine ur_inl rfl (rcv_of hc2) (Nat.le_of_ble_eq_true rfl) (Nat.le_of_ble_eq_true rfl) (sf_X12_plainTells hO0 _ (by show 0 ≤ a1.toInt ∧ a1.toInt ≤ 149; omega) _ (by omega) (fun w20 h23 hr21 hO23 hv23 hp22 => ?_))
      have hu23 := hv23
      obtain ⟨x24, rfl⟩ := hr21
      show uRun _ (uCall Mt _) _ 58 (_, [(.inl x24)], _, _, _)
      obtain ⟨fs25, hc26⟩ := hO23.mod
      obtain ⟨f27, p28, t29⟩ := mf_63 hO23 hc26
      have t30 := fI_of hc26 p28
      exact ur_ret rfl rfl (hQ _ _ ⟨_, rfl⟩ hO23 hu23 (by omega))
    · have t31 := ne_no c18
      refine ur_ldA rfl rfl ?_
      refine ur_push rfl ?_
      refine ur_inl rfl (rcv_of hc2) (Nat.le_of_ble_eq_true rfl) (Nat.le_of_ble_eq_true rfl) (sf_X12_ran hO0 _ (by omega) (fun w32 h35 hr33 hO35 hv35 hp34 => ?_))
      have hu35 := hv35
      subst hr33
      show uRun _ (uCall Mt _) _ 43 (_, [], _, _, _)
      refine ur_ldA rfl rfl ?_
      refine ur_ldI rfl rfl ?_
      refine ur_ldI rfl rfl ?_
      obtain ⟨fs36, hc37⟩ := hO35.mod
      obtain ⟨f38, p39, t40⟩ := mf_63 hO35 hc37
      have t41 := fI_of hc37 p39
      refine ur_inl rfl (rcv_of hc37) (Nat.le_of_ble_eq_true rfl) (Nat.le_of_ble_eq_true rfl) (sf_X12_plainTells hO35 _ (by show 0 ≤ a1.toInt ∧ a1.toInt ≤ 149; omega) _ (by omega) (fun w42 h45 hr43 hO45 hv45 hp44 => ?_))
      have hu45 := hv45
      obtain ⟨x46, rfl⟩ := hr43
      show uRun _ (uCall Mt _) _ 49 (_, [(.inl x46)], _, _, _)
      refine ur_push rfl ?_
      refine ur_binV rfl (fun x47 e48 => ?_)
      have z49 := any_r x46
      obtain ⟨fs50, hc51⟩ := hO45.mod
      obtain ⟨f52, p53, t54⟩ := mf_63 hO45 hc51
      have t55 := fI_of hc51 p53
      exact ur_ret rfl rfl (hQ _ _ ⟨_, rfl⟩ hO45 (hu35.tr hu45) (by omega))
  · have t56 := ne_no c14
    refine ur_ldA rfl rfl ?_
    refine ur_push rfl ?_
    refine ur_inl rfl (rcv_of hc2) (Nat.le_of_ble_eq_true rfl) (Nat.le_of_ble_eq_true rfl) (sf_X12_ran hO0 _ (by omega) (fun w57 h60 hr58 hO60 hv60 hp59 => ?_))
    have hu60 := hv60
    subst hr58
    show uRun _ (uCall Mt _) _ 16 (_, [], _, _, _)
    refine ur_ldA rfl rfl ?_
    refine ur_ldI rfl rfl ?_
    refine ur_ldI rfl rfl ?_
    obtain ⟨fs61, hc62⟩ := hO60.mod
    obtain ⟨f63, p64, t65⟩ := mf_63 hO60 hc62
    have t66 := fI_of hc62 p64
    refine ur_inl rfl (rcv_of hc62) (Nat.le_of_ble_eq_true rfl) (Nat.le_of_ble_eq_true rfl) (sf_X12_plainTells hO60 _ (by show 0 ≤ a1.toInt ∧ a1.toInt ≤ 149; omega) _ (by omega) (fun w67 h70 hr68 hO70 hv70 hp69 => ?_))
    have hu70 := hv70
    obtain ⟨x71, rfl⟩ := hr68
    show uRun _ (uCall Mt _) _ 22 (_, [(.inl x71)], _, _, _)
    refine ur_push rfl ?_
    refine ur_binV rfl (fun x72 e73 => ?_)
    obtain ⟨fs74, hc75⟩ := hO70.mod
    obtain ⟨f76, p77, t78⟩ := mf_63 hO70 hc75
    have t79 := fI_of hc75 p77
    exact ur_ret rfl rfl (hQ _ _ ⟨_, rfl⟩ hO70 (hu60.tr hu70) (by omega))

set_option maxRecDepth 20000 in
set_option maxHeartbeats 4000000 in
theorem sf_X12_act {d kc ks : Nat} {h0 : aH} {Q : Option aV → aH → Prop} (hO0 : OK h0) (a1 : Int32) (a2 : Int32) (a3 : Int32) (hQ : ∀ r h', (∃ x, r = some (.inl x)) → OK h' → un [109, 7963] h0 h' → Q r h') : uCall Mt (d + 9) 293 [(.inr (.inr (some 69))), (.inl a1), (.inl a2), (.inl a3)] h0 kc ks Q := by
  have l_0 : ((0) : Int32).toInt = 0 := by decide
  have l_1 : ((1) : Int32).toInt = 1 := by decide
  have l_2 : ((2) : Int32).toInt = 2 := by decide
  have l_3 : ((3) : Int32).toInt = 3 := by decide
  refine uc_ink [some (.inr (.inr (some 69))), some (.inl a1), some (.inl a2), some (.inl a3)] mt_293 (Nat.le_of_ble_eq_true rfl) rfl ?_
  obtain ⟨fs1, hc2⟩ := hO0.mod
  obtain ⟨f3, p4, t5⟩ := mf_38 hO0 hc2
  have t6 := fI_of hc2 p4
  obtain ⟨f7, p8, t9⟩ := mf_63 hO0 hc2
  have t10 := fI_of hc2 p8
  refine ur_ldA rfl rfl ?_
  refine ur_push rfl ?_
  refine ur_putM (W := [109, 7963]) rfl hO0 hc2 (by decide) rfl (ms_63 (hO0.msh hc2) (show 0 ≤ (0 : Int32).toInt ∧ (0 : Int32).toInt ≤ 1000000 by omega)) (Or.inr (by decide)) (fun h12 hO12 hu12 d11 hc13 => ?_)
  have t14 := fI_of hc13 (gs_ne p4 (by decide))
  have t15 := fI_of hc13 (gs_eq p8)
  refine ur_ldA rfl rfl ?_
  refine ur_ldI rfl rfl ?_
  have t16 := fI_keep (k := 38) hO0 hO12 hu12 rfl (by decide)
  refine ur_inl rfl (rcv_of hc13) (Nat.le_of_ble_eq_true rfl) (Nat.le_of_ble_eq_true rfl) (sg_isWord hO12 _ (fun w17 hr18 => ?_))
  obtain ⟨b19, rfl, t20⟩ := hr18
  show uRun _ (uCall Mt _) _ 10 (_, [(.inl (bi b19))], _, _, _)
  refine ur_eqB rfl (fun c21 => ?_) (fun c21 => ?_)
  · refine ur_push rfl ?_
    exact ur_ret rfl rfl (hQ _ _ ⟨_, rfl⟩ hO12 hu12)
  · have t22 := t20 c21
    refine ur_ldI rfl rfl ?_
    refine ur_push rfl ?_
    refine ur_push rfl ?_
    refine ur_callv rfl rfl (Nat.le_of_ble_eq_true rfl) (Nat.le_of_ble_eq_true rfl) rfl (sp_in _ _ _ _ _) ?_
    refine ur_neB rfl (fun c25 => ?_) (fun c25 => ?_)
    · have t26 := wi_toL c25 l_0 l_3
      refine ur_ldI rfl rfl ?_
      refine ur_if1 rfl (fun c27 => ?_) (fun c27 => ?_)
      · have t28 := ne_to c27
        refine ur_ldI rfl rfl ?_
        refine ur_push rfl ?_
        refine ur_if2 rfl (fun c29 => ?_) (fun c29 => ?_)
        · have t30 := ne_to c29
          refine ur_ldI rfl rfl ?_
          refine ur_push rfl ?_
          refine ur_if2 rfl (fun c31 => ?_) (fun c31 => ?_)
          · have t32 := ne_to c31
            refine ur_ldA rfl rfl ?_
            refine ur_ldI rfl rfl ?_
            refine ur_ldI rfl rfl ?_
            refine ur_inl rfl (rcv_of hc13) (Nat.le_of_ble_eq_true rfl) (Nat.le_of_ble_eq_true rfl) (sf_X12_tells hO12 _ (by show 0 ≤ a1.toInt ∧ a1.toInt ≤ 149; omega) _ (by omega) (fun w33 h36 hr34 hO36 hv36 hp35 => ?_))
            have hu36 := hv36
            obtain ⟨x37, rfl⟩ := hr34
            show uRun _ (uCall Mt _) _ 71 (_, [(.inl x37)], _, _, _)
            obtain ⟨fs38, hc39⟩ := hO36.mod
            obtain ⟨f40, p41, t42⟩ := mf_38 hO36 hc39
            have t43 := fI_of hc39 p41
            obtain ⟨f44, p45, t46⟩ := mf_63 hO36 hc39
            have t47 := fI_of hc39 p45
            have t48 := fI_keep (k := 38) hO0 hO36 (hu12.tr hu36) rfl (by decide)
            exact ur_ret rfl rfl (hQ _ _ ⟨_, rfl⟩ hO36 (hu12.tr hu36))
          · have t49 := ne_no c31
            refine ur_ldA rfl rfl ?_
            refine ur_ldI rfl rfl ?_
            refine ur_ldI rfl rfl ?_
            refine ur_inl rfl (rcv_of hc13) (Nat.le_of_ble_eq_true rfl) (Nat.le_of_ble_eq_true rfl) (sf_X12_suits hO12 _ (by show 0 ≤ a1.toInt ∧ a1.toInt ≤ 149; omega) _ (by omega) (fun w50 h53 hr51 hO53 hv53 hp52 => ?_))
            have hu53 := hv53
            obtain ⟨x54, rfl⟩ := hr51
            show uRun _ (uCall Mt _) _ 62 (_, [(.inl x54)], _, _, _)
            refine ur_go rfl ?_
            obtain ⟨fs55, hc56⟩ := hO53.mod
            obtain ⟨f57, p58, t59⟩ := mf_38 hO53 hc56
            have t60 := fI_of hc56 p58
            obtain ⟨f61, p62, t63⟩ := mf_63 hO53 hc56
            have t64 := fI_of hc56 p62
            have t65 := fI_keep (k := 38) hO0 hO53 (hu12.tr hu53) rfl (by decide)
            exact ur_ret rfl rfl (hQ _ _ ⟨_, rfl⟩ hO53 (hu12.tr hu53))
        · have t66 := ne_no c29
          refine ur_ldA rfl rfl ?_
          refine ur_ldI rfl rfl ?_
          refine ur_ldI rfl rfl ?_
          refine ur_inl rfl (rcv_of hc13) (Nat.le_of_ble_eq_true rfl) (Nat.le_of_ble_eq_true rfl) (sf_X12_places hO12 _ (by show 0 ≤ a1.toInt ∧ a1.toInt ≤ 149; omega) _ (by omega) (fun w67 h70 hr68 hO70 hv70 hp69 => ?_))
          have hu70 := hv70
          obtain ⟨x71, rfl⟩ := hr68
          show uRun _ (uCall Mt _) _ 48 (_, [(.inl x71)], _, _, _)
          refine ur_go rfl ?_
          obtain ⟨fs72, hc73⟩ := hO70.mod
          obtain ⟨f74, p75, t76⟩ := mf_38 hO70 hc73
          have t77 := fI_of hc73 p75
          obtain ⟨f78, p79, t80⟩ := mf_63 hO70 hc73
          have t81 := fI_of hc73 p79
          have t82 := fI_keep (k := 38) hO0 hO70 (hu12.tr hu70) rfl (by decide)
          exact ur_ret rfl rfl (hQ _ _ ⟨_, rfl⟩ hO70 (hu12.tr hu70))
      · have t83 := ne_no c27
        refine ur_ldA rfl rfl ?_
        refine ur_ldI rfl rfl ?_
        refine ur_ldI rfl rfl ?_
        refine ur_inl rfl (rcv_of hc13) (Nat.le_of_ble_eq_true rfl) (Nat.le_of_ble_eq_true rfl) (sf_X12_dates hO12 _ (by show 0 ≤ a1.toInt ∧ a1.toInt ≤ 149; omega) _ (by omega) (fun w84 h87 hr85 hO87 hv87 hp86 => ?_))
        have hu87 := hv87
        obtain ⟨x88, rfl⟩ := hr85
        show uRun _ (uCall Mt _) _ 34 (_, [(.inl x88)], _, _, _)
        refine ur_go rfl ?_
        obtain ⟨fs89, hc90⟩ := hO87.mod
        obtain ⟨f91, p92, t93⟩ := mf_38 hO87 hc90
        have t94 := fI_of hc90 p92
        obtain ⟨f95, p96, t97⟩ := mf_63 hO87 hc90
        have t98 := fI_of hc90 p96
        have t99 := fI_keep (k := 38) hO0 hO87 (hu12.tr hu87) rfl (by decide)
        exact ur_ret rfl rfl (hQ _ _ ⟨_, rfl⟩ hO87 (hu12.tr hu87))
    · have t100 := wi_noL c25 l_0 l_3
      refine ur_push rfl ?_
      exact ur_ret rfl rfl (hQ _ _ ⟨_, rfl⟩ hO12 hu12)

set_option maxRecDepth 20000 in
set_option maxHeartbeats 4000000 in
theorem sf_X12_newComet {d kc ks : Nat} {h0 : aH} {Q : Option aV → aH → Prop} (hO0 : OK h0) (hX0 : SX h0) (a1 : Int32) (b1 : 0 ≤ a1.toInt ∧ a1.toInt ≤ 999999) (a2 : Int32) (a3 : Int32) (a4 : Int32) (b4 : 5 ≤ a4.toInt ∧ a4.toInt ≤ 99) (a5 : Int32) (a6 : Int32) (a7 : Int32) (b7 : -1 ≤ a7.toInt ∧ a7.toInt ≤ 11) (pre0 : fI h0 4 ≤ 11) (pre1 : a7.toInt < fI h0 4) (hQ : ∀ r h', (∃ x, r = some (.inl x)) → OK h' → un [72, 73, 74, 75, 76, 77, 78, 79, 7904] h0 h' → (fI h' 4 = fI h0 4 + 1) → (SX h') → Q r h') : uCall Mt (d + 1) 192 [(.inr (.inr (some 69))), (.inl a1), (.inl a2), (.inl a3), (.inl a4), (.inl a5), (.inl a6), (.inl a7)] h0 kc ks Q := by
  have l_m2000000000 : ((-2000000000) : Int32).toInt = -2000000000 := by decide
  have l_1 : ((1) : Int32).toInt = 1 := by decide
  refine uc_ink [some (.inr (.inr (some 69))), some (.inl a1), some (.inl a2), some (.inl a3), some (.inl a4), some (.inl a5), some (.inl a6), some (.inl a7)] mt_192 (Nat.le_of_ble_eq_true rfl) rfl ?_
  obtain ⟨fs1, hc2⟩ := hO0.mod
  obtain ⟨f3, p4, t5⟩ := mf_4 hO0 hc2
  have t6 := fI_of hc2 p4
  obtain ⟨xs8, hc7, hn9, he10⟩ := hO0.int (hO0.fix 75 (by decide) rfl)
  obtain ⟨xs12, hc11, hn13, he14⟩ := hO0.int (hO0.fix 78 (by decide) rfl)
  refine ur_ldA rfl rfl ?_
  refine ur_get rfl hc2 (mf_5 hO0 hc2) ?_
  refine ur_ldA rfl rfl ?_
  refine ur_get rfl hc2 p4 ?_
  refine ur_ldI rfl rfl ?_
  obtain ⟨xs16, hc15, hn17, he18⟩ := hO0.int (hO0.fix 72 (by decide) rfl)
  refine ur_astV (W := [72]) (m := 12) rfl hO0 hc15 (by decide) hn17 (by omega) (by show 0 ≤ a1.toInt ∧ a1.toInt ≤ 999999; omega) (Or.inr (Or.inr (wid_fix (by decide) (by decide)))) (fun h21 hO21 hv21 d19 hc20 => ?_)
  have hu21 : un [72, 73, 74, 75, 76, 77, 78, 79, 7904] h0 h21 := hv21.mono (by decide)
  refine ur_ldA rfl rfl ?_
  refine ur_get rfl ((d19 _ (by decide)).trans hc2) (mf_6 hO21 ((d19 _ (by decide)).trans hc2)) ?_
  refine ur_ldA rfl rfl ?_
  have t22 := fI_of ((d19 _ (by decide)).trans hc2) p4
  refine ur_get rfl ((d19 _ (by decide)).trans hc2) p4 ?_
  refine ur_ldI rfl rfl ?_
  obtain ⟨xs24, hc23, hn25, he26⟩ := hO21.int (hO21.fix 73 (by decide) rfl)
  refine ur_astV (W := [73]) (m := 12) rfl hO21 hc23 (by decide) hn25 (by omega) (any_r _) (Or.inr (Or.inr (wid_fix (by decide) (by decide)))) (fun h29 hO29 hv29 d27 hc28 => ?_)
  have hu29 : un [72, 73, 74, 75, 76, 77, 78, 79, 7904] h21 h29 := hv29.mono (by decide)
  refine ur_ldA rfl rfl ?_
  refine ur_get rfl ((d27 _ (by decide)).trans ((d19 _ (by decide)).trans hc2)) (mf_7 hO29 ((d27 _ (by decide)).trans ((d19 _ (by decide)).trans hc2))) ?_
  refine ur_ldA rfl rfl ?_
  have t30 := fI_of ((d27 _ (by decide)).trans ((d19 _ (by decide)).trans hc2)) p4
  refine ur_get rfl ((d27 _ (by decide)).trans ((d19 _ (by decide)).trans hc2)) p4 ?_
  refine ur_ldI rfl rfl ?_
  obtain ⟨xs32, hc31, hn33, he34⟩ := hO29.int (hO29.fix 74 (by decide) rfl)
  refine ur_astV (W := [74]) (m := 12) rfl hO29 hc31 (by decide) hn33 (by omega) (any_r _) (Or.inr (Or.inr (wid_fix (by decide) (by decide)))) (fun h37 hO37 hv37 d35 hc36 => ?_)
  have hu37 : un [72, 73, 74, 75, 76, 77, 78, 79, 7904] h29 h37 := hv37.mono (by decide)
  refine ur_ldA rfl rfl ?_
  have hc38 := ((d35 _ (by decide)).trans ((d27 _ (by decide)).trans ((d19 _ (by decide)).trans hc2)))
  refine ur_get rfl hc38 (mf_8 hO37 hc38) ?_
  refine ur_ldA rfl rfl ?_
  have t39 := fI_of hc38 p4
  refine ur_get rfl hc38 p4 ?_
  refine ur_ldI rfl rfl ?_
  refine ur_astV (W := [75]) (m := 12) rfl hO37 ((d35 _ (by decide)).trans ((d27 _ (by decide)).trans ((d19 _ (by decide)).trans hc7))) (by decide) hn9 (by omega) (by show 0 ≤ a4.toInt ∧ a4.toInt ≤ 99; omega) (Or.inr (Or.inr (wid_fix (by decide) (by decide)))) (fun h42 hO42 hv42 d40 hc41 => ?_)
  have hu42 : un [72, 73, 74, 75, 76, 77, 78, 79, 7904] h37 h42 := hv42.mono (by decide)
  refine ur_ldA rfl rfl ?_
  refine ur_get rfl ((d40 _ (by decide)).trans hc38) (mf_9 hO42 ((d40 _ (by decide)).trans hc38)) ?_
  refine ur_ldA rfl rfl ?_
  have t43 := fI_of ((d40 _ (by decide)).trans hc38) p4
  refine ur_get rfl ((d40 _ (by decide)).trans hc38) p4 ?_
  refine ur_ldI rfl rfl ?_
  obtain ⟨xs45, hc44, hn46, he47⟩ := hO42.int (hO42.fix 76 (by decide) rfl)
  refine ur_astV (W := [76]) (m := 12) rfl hO42 hc44 (by decide) hn46 (by omega) (any_r _) (Or.inr (Or.inr (wid_fix (by decide) (by decide)))) (fun h50 hO50 hv50 d48 hc49 => ?_)
  have hu50 : un [72, 73, 74, 75, 76, 77, 78, 79, 7904] h42 h50 := hv50.mono (by decide)
  refine ur_ldA rfl rfl ?_
  refine ur_get rfl ((d48 _ (by decide)).trans ((d40 _ (by decide)).trans hc38)) (mf_10 hO50 ((d48 _ (by decide)).trans ((d40 _ (by decide)).trans hc38))) ?_
  refine ur_ldA rfl rfl ?_
  have t51 := fI_of ((d48 _ (by decide)).trans ((d40 _ (by decide)).trans hc38)) p4
  refine ur_get rfl ((d48 _ (by decide)).trans ((d40 _ (by decide)).trans hc38)) p4 ?_
  refine ur_ldI rfl rfl ?_
  obtain ⟨xs53, hc52, hn54, he55⟩ := hO50.int (hO50.fix 77 (by decide) rfl)
  refine ur_astV (W := [77]) (m := 12) rfl hO50 hc52 (by decide) hn54 (by omega) (any_r _) (Or.inr (Or.inr (wid_fix (by decide) (by decide)))) (fun h58 hO58 hv58 d56 hc57 => ?_)
  have hu58 : un [72, 73, 74, 75, 76, 77, 78, 79, 7904] h50 h58 := hv58.mono (by decide)
  refine ur_ldA rfl rfl ?_
  have hc59 := ((d56 _ (by decide)).trans ((d48 _ (by decide)).trans ((d40 _ (by decide)).trans hc38)))
  refine ur_get rfl hc59 (mf_11 hO58 hc59) ?_
  refine ur_ldA rfl rfl ?_
  have t60 := fI_of hc59 p4
  refine ur_get rfl hc59 p4 ?_
  refine ur_ldI rfl rfl ?_
  refine ur_astV (W := [78]) (m := 12) rfl hO58 ((d56 _ (by decide)).trans ((d48 _ (by decide)).trans ((d40 _ (by decide)).trans ((d35 _ (by decide)).trans ((d27 _ (by decide)).trans ((d19 _ (by decide)).trans hc11)))))) (by decide) hn13 (by omega) (by show -1 ≤ a7.toInt ∧ a7.toInt ≤ 11; omega) (Or.inr (Or.inr (wid_fix (by decide) (by decide)))) (fun h63 hO63 hv63 d61 hc62 => ?_)
  have hu63 : un [72, 73, 74, 75, 76, 77, 78, 79, 7904] h58 h63 := hv63.mono (by decide)
  refine ur_ldA rfl rfl ?_
  refine ur_get rfl ((d61 _ (by decide)).trans hc59) (mf_12 hO63 ((d61 _ (by decide)).trans hc59)) ?_
  refine ur_ldA rfl rfl ?_
  have t64 := fI_of ((d61 _ (by decide)).trans hc59) p4
  refine ur_get rfl ((d61 _ (by decide)).trans hc59) p4 ?_
  refine ur_push rfl ?_
  obtain ⟨xs66, hc65, hn67, he68⟩ := hO63.int (hO63.fix 79 (by decide) rfl)
  refine ur_astV (W := [79]) (m := 12) rfl hO63 hc65 (by decide) hn67 (by omega) (any_r _) (Or.inr (Or.inr (wid_fix (by decide) (by decide)))) (fun h71 hO71 hv71 d69 hc70 => ?_)
  have hu71 : un [72, 73, 74, 75, 76, 77, 78, 79, 7904] h63 h71 := hv71.mono (by decide)
  refine ur_ldA rfl rfl ?_
  refine ur_dup rfl rfl ?_
  have t72 := fI_of ((d69 _ (by decide)).trans ((d61 _ (by decide)).trans hc59)) p4
  refine ur_get rfl ((d69 _ (by decide)).trans ((d61 _ (by decide)).trans hc59)) p4 ?_
  refine ur_push rfl ?_
  refine ur_binV rfl (fun x73 e74 => ?_)
  have z75 := any_r f3
  have t76 := ti_add e74 (by omega) (by omega)
  refine ur_putM (W := [7904]) rfl hO71 ((d69 _ (by decide)).trans ((d61 _ (by decide)).trans hc59)) (by decide) rfl (ms_4 (hO71.msh ((d69 _ (by decide)).trans ((d61 _ (by decide)).trans hc59))) (show 0 ≤ x73.toInt ∧ x73.toInt ≤ 12 by omega)) (Or.inr (by decide)) (fun h78 hO78 hv78 d77 hc79 => ?_)
  have hu78 : un [72, 73, 74, 75, 76, 77, 78, 79, 7904] h71 h78 := hv78.mono (by decide)
  have t80 := fI_of hc79 (gs_eq p4)
  refine ur_ldA rfl rfl ?_
  refine ur_get rfl hc79 (gs_eq p4) ?_
  refine ur_push rfl ?_
  refine ur_binV rfl (fun x81 e82 => ?_)
  have z83 := any_r x73
  have t84 := ti_sub e82 (by omega) (by omega)
  exact ur_ret rfl rfl (hQ _ _ ⟨_, rfl⟩ hO78 (hu21.tr (hu29.tr (hu37.tr (hu42.tr (hu50.tr (hu58.tr (hu63.tr (hu71.tr hu78)))))))) (by omega) ⟨hX0.1.un hO0 hO78 (hu21.tr (hu29.tr (hu37.tr (hu42.tr (hu50.tr (hu58.tr (hu63.tr (hu71.tr hu78)))))))) (by decide) (by decide), KX.push (j := f3) (x := a7) hX0.2.1 hc11 ((d77 _ (by decide)).trans ((d69 _ (by decide)).trans hc62)) (by omega) (by omega) (by omega) (by omega), RX.push (j := f3) (x := a4) hX0.2.2.1 hc7 ((d77 _ (by decide)).trans ((d69 _ (by decide)).trans ((d61 _ (by decide)).trans ((d56 _ (by decide)).trans ((d48 _ (by decide)).trans hc41))))) (by omega) (by omega) (by omega) (by omega), hX0.2.2.2.1.un hO0 hO78 (hu21.tr (hu29.tr (hu37.tr (hu42.tr (hu50.tr (hu58.tr (hu63.tr (hu71.tr hu78)))))))) (by decide) (by decide) (by decide), hX0.2.2.2.2.un hO0 (hu21.tr (hu29.tr (hu37.tr (hu42.tr (hu50.tr (hu58.tr (hu63.tr (hu71.tr hu78)))))))) (by decide)⟩)

set_option maxRecDepth 20000 in
set_option maxHeartbeats 4000000 in
theorem sf_X12_comet {d kc ks : Nat} {h0 : aH} {Q : Option aV → aH → Prop} (hO0 : OK h0) (hX0 : SX h0) (a1 : Int32) (a2 : Int32) (a3 : Int32) (a4 : Int32) (hQ : ∀ r h', (∃ x, r = some (.inl x)) → OK h' → un [72, 73, 74, 75, 76, 77, 78, 79, 7904] h0 h' → (fI h' 4 ≤ fI h0 4 + 1) → (SX h') → Q r h') : uCall Mt (d + 3) 193 [(.inr (.inr (some 69))), (.inl a1), (.inl a2), (.inl a3), (.inl a4)] h0 kc ks Q := by
  have l_m3 : ((-3) : Int32).toInt = -3 := by decide
  have l_m1 : ((-1) : Int32).toInt = -1 := by decide
  have l_0 : ((0) : Int32).toInt = 0 := by decide
  have l_1 : ((1) : Int32).toInt = 1 := by decide
  have l_5 : ((5) : Int32).toInt = 5 := by decide
  have l_9 : ((9) : Int32).toInt = 9 := by decide
  have l_12 : ((12) : Int32).toInt = 12 := by decide
  have l_99 : ((99) : Int32).toInt = 99 := by decide
  have l_100 : ((100) : Int32).toInt = 100 := by decide
  have l_200 : ((200) : Int32).toInt = 200 := by decide
  have l_359 : ((359) : Int32).toInt = 359 := by decide
  have l_40000 : ((40000) : Int32).toInt = 40000 := by decide
  have l_100000 : ((100000) : Int32).toInt = 100000 := by decide
  have l_199999 : ((199999) : Int32).toInt = 199999 := by decide
  have l_999999 : ((999999) : Int32).toInt = 999999 := by decide
  refine uc_ink [some (.inr (.inr (some 69))), some (.inl a1), some (.inl a2), some (.inl a3), some (.inl a4), none] mt_193 (Nat.le_of_ble_eq_true rfl) rfl ?_
  obtain ⟨fs1, hc2⟩ := hO0.mod
  obtain ⟨f3, p4, t5⟩ := mf_4 hO0 hc2
  have t6 := fI_of hc2 p4
  refine ur_ldI rfl rfl ?_
  refine ur_push rfl ?_
  refine ur_divV rfl (by decide) (fun x7 e8 => ?_)
  have z9 := any_r a3
  have t10 : 0 ≤ a3.toInt → x7.toInt = a3.toInt % 100000 := fun q => ti_rem e8 l_100000 (by decide) q
  refine ur_svIk [some (.inr (.inr (some 69))), some (.inl a1), some (.inl a2), some (.inl a3), some (.inl a4), some (.inl x7)] rfl rfl ?_
  refine ur_ldI rfl rfl ?_
  refine ur_callv rfl rfl (Nat.le_of_ble_eq_true rfl) (Nat.le_of_ble_eq_true rfl) rfl (sq_isDay _ _) ?_
  refine ur_eqB rfl (fun c13 => ?_) (fun c13 => ?_)
  · have t14 := wi_noL c13 l_0 l_999999
    refine ur_push rfl ?_
    exact ur_ret rfl rfl (hQ _ _ ⟨_, rfl⟩ hO0 un.rf (by omega) hX0)
  · have t15 := wi_toL c13 l_0 l_999999
    refine ur_ldI rfl rfl ?_
    refine ur_push rfl ?_
    refine ur_push rfl ?_
    refine ur_callv rfl rfl (Nat.le_of_ble_eq_true rfl) (Nat.le_of_ble_eq_true rfl) rfl (sp_in _ _ _ _ _) ?_
    refine ur_eqB rfl (fun c18 => ?_) (fun c18 => ?_)
    · have t19 := wi_noL c18 l_200 l_40000
      refine ur_push rfl ?_
      exact ur_ret rfl rfl (hQ _ _ ⟨_, rfl⟩ hO0 un.rf (by omega) hX0)
    · have t20 := wi_toL c18 l_200 l_40000
      refine ur_ldI rfl rfl ?_
      refine ur_push rfl ?_
      refine ur_push rfl ?_
      refine ur_callv rfl rfl (Nat.le_of_ble_eq_true rfl) (Nat.le_of_ble_eq_true rfl) rfl (sp_in _ _ _ _ _) ?_
      refine ur_eqB rfl (fun c23 => ?_) (fun c23 => ?_)
      · have t24 := wi_noL c23 l_0 l_199999
        refine ur_push rfl ?_
        exact ur_ret rfl rfl (hQ _ _ ⟨_, rfl⟩ hO0 un.rf (by omega) hX0)
      · have t25 := wi_toL c23 l_0 l_199999
        refine ur_ldI rfl rfl ?_
        refine ur_push rfl ?_
        refine ur_divV rfl (by decide) (fun x26 e27 => ?_)
        have z28 := any_r x7
        have t29 : 0 ≤ x7.toInt → x26.toInt = x7.toInt / 100 := fun q => ti_div e27 l_100 (by decide) q
        refine ur_push rfl ?_
        refine ur_if2 rfl (fun c30 => ?_) (fun c30 => ?_)
        · have t31 := lt_to c30
          refine ur_push rfl ?_
          exact ur_ret rfl rfl (hQ _ _ ⟨_, rfl⟩ hO0 un.rf (by omega) hX0)
        · have t32 := lt_no c30
          refine ur_ldI rfl rfl ?_
          refine ur_push rfl ?_
          refine ur_divV rfl (by decide) (fun x33 e34 => ?_)
          have t35 : 0 ≤ x7.toInt → x33.toInt = x7.toInt % 100 := fun q => ti_rem e34 l_100 (by decide) q
          refine ur_push rfl ?_
          refine ur_push rfl ?_
          refine ur_callv rfl rfl (Nat.le_of_ble_eq_true rfl) (Nat.le_of_ble_eq_true rfl) rfl (sp_in _ _ _ _ _) ?_
          refine ur_eqB rfl (fun c38 => ?_) (fun c38 => ?_)
          · have t39 := wi_noL c38 l_5 l_99
            refine ur_push rfl ?_
            exact ur_ret rfl rfl (hQ _ _ ⟨_, rfl⟩ hO0 un.rf (by omega) hX0)
          · have t40 := wi_toL c38 l_5 l_99
            refine ur_ldI rfl rfl ?_
            refine ur_push rfl ?_
            refine ur_push rfl ?_
            refine ur_callv rfl rfl (Nat.le_of_ble_eq_true rfl) (Nat.le_of_ble_eq_true rfl) rfl (sp_in _ _ _ _ _) ?_
            refine ur_neB rfl (fun c43 => ?_) (fun c43 => ?_)
            · have t44 := wi_toL c43 l_0 l_9
              refine ur_ldA rfl rfl ?_
              refine ur_get rfl hc2 p4 ?_
              refine ur_push rfl ?_
              refine ur_if2 rfl (fun c45 => ?_) (fun c45 => ?_)
              · have t46 := ne_to c45
                refine ur_ldA rfl rfl ?_
                refine ur_ldI rfl rfl ?_
                refine ur_ldI rfl rfl ?_
                refine ur_ldI rfl rfl ?_
                refine ur_push rfl ?_
                refine ur_divV rfl (by decide) (fun x47 e48 => ?_)
                have t49 : 0 ≤ x7.toInt → x47.toInt = x7.toInt / 100 := fun q => ti_div e48 l_100 (by decide) q
                refine ur_ldI rfl rfl ?_
                refine ur_push rfl ?_
                refine ur_divV rfl (by decide) (fun x50 e51 => ?_)
                have t52 : 0 ≤ x7.toInt → x50.toInt = x7.toInt % 100 := fun q => ti_rem e51 l_100 (by decide) q
                refine ur_ldI rfl rfl ?_
                refine ur_push rfl ?_
                refine ur_if2 rfl (fun c53 => ?_) (fun c53 => ?_)
                · have t54 := lt_to c53
                  refine ur_push rfl ?_
                  refine ur_ldI rfl rfl ?_
                  refine ur_push rfl ?_
                  refine ur_inl rfl (rcv_of hc2) (Nat.le_of_ble_eq_true rfl) (Nat.le_of_ble_eq_true rfl) (sf_X12_newComet hO0 hX0 _ (by show 0 ≤ a1.toInt ∧ a1.toInt ≤ 999999; omega) _ _ _ (by show 5 ≤ x50.toInt ∧ x50.toInt ≤ 99; omega) _ _ _ (by show -1 ≤ ((-1) : Int32).toInt ∧ ((-1) : Int32).toInt ≤ 11; omega) (by omega) (by omega) (fun w55 h59 hr56 hO59 hv59 hp57 hp58 => ?_))
                  have hu59 := hv59
                  obtain ⟨x60, rfl⟩ := hr56
                  show uRun _ (uCall Mt _) _ 115 (_, [(.inl x60)], _, _, _)
                  obtain ⟨fs61, hc62⟩ := hO59.mod
                  obtain ⟨f63, p64, t65⟩ := mf_4 hO59 hc62
                  have t66 := fI_of hc62 p64
                  exact ur_ret rfl rfl (hQ _ _ ⟨_, rfl⟩ hO59 hu59 (by omega) hp58)
                · have t67 := lt_no c53
                  refine ur_push rfl ?_
                  refine ur_go rfl ?_
                  refine ur_ldI rfl rfl ?_
                  refine ur_push rfl ?_
                  refine ur_inl rfl (rcv_of hc2) (Nat.le_of_ble_eq_true rfl) (Nat.le_of_ble_eq_true rfl) (sf_X12_newComet hO0 hX0 _ (by show 0 ≤ a1.toInt ∧ a1.toInt ≤ 999999; omega) _ _ _ (by show 5 ≤ x50.toInt ∧ x50.toInt ≤ 99; omega) _ _ _ (by show -1 ≤ ((-1) : Int32).toInt ∧ ((-1) : Int32).toInt ≤ 11; omega) (by omega) (by omega) (fun w68 h72 hr69 hO72 hv72 hp70 hp71 => ?_))
                  have hu72 := hv72
                  obtain ⟨x73, rfl⟩ := hr69
                  show uRun _ (uCall Mt _) _ 115 (_, [(.inl x73)], _, _, _)
                  obtain ⟨fs74, hc75⟩ := hO72.mod
                  obtain ⟨f76, p77, t78⟩ := mf_4 hO72 hc75
                  have t79 := fI_of hc75 p77
                  exact ur_ret rfl rfl (hQ _ _ ⟨_, rfl⟩ hO72 hu72 (by omega) hp71)
              · have t80 := ne_no c45
                refine ur_push rfl ?_
                exact ur_ret rfl rfl (hQ _ _ ⟨_, rfl⟩ hO0 un.rf (by omega) hX0)
            · have t81 := wi_noL c43 l_0 l_9
              refine ur_push rfl ?_
              exact ur_ret rfl rfl (hQ _ _ ⟨_, rfl⟩ hO0 un.rf (by omega) hX0)

set_option maxRecDepth 20000 in
set_option maxHeartbeats 4000000 in
theorem sf_X12_broke {d kc ks : Nat} {h0 : aH} {Q : Option aV → aH → Prop} (hO0 : OK h0) (hX0 : SX h0) (a1 : Int32) (a2 : Int32) (hQ : ∀ r h', (∃ x, r = some (.inl x)) → OK h' → un [72, 73, 74, 75, 76, 77, 78, 79, 80, 81, 7904] h0 h' → (fI h' 4 ≤ fI h0 4 + 2) → (SX h') → Q r h') : uCall Mt (d + 5) 278 [(.inr (.inr (some 69))), (.inl a1), (.inl a2)] h0 kc ks Q := by
  have l_m2000000000 : ((-2000000000) : Int32).toInt = -2000000000 := by decide
  have l_m60 : ((-60) : Int32).toInt = -60 := by decide
  have l_m5 : ((-5) : Int32).toInt = -5 := by decide
  have l_m3 : ((-3) : Int32).toInt = -3 := by decide
  have l_m2 : ((-2) : Int32).toInt = -2 := by decide
  have l_m1 : ((-1) : Int32).toInt = -1 := by decide
  have l_0 : ((0) : Int32).toInt = 0 := by decide
  have l_1 : ((1) : Int32).toInt = 1 := by decide
  have l_2 : ((2) : Int32).toInt = 2 := by decide
  have l_12 : ((12) : Int32).toInt = 12 := by decide
  have l_30 : ((30) : Int32).toInt = 30 := by decide
  have l_60 : ((60) : Int32).toInt = 60 := by decide
  have l_359 : ((359) : Int32).toInt = 359 := by decide
  have l_360 : ((360) : Int32).toInt = 360 := by decide
  refine uc_ink [some (.inr (.inr (some 69))), some (.inl a1), some (.inl a2), none, none, none] mt_278 (Nat.le_of_ble_eq_true rfl) rfl ?_
  obtain ⟨fs1, hc2⟩ := hO0.mod
  obtain ⟨f3, p4, t5⟩ := mf_4 hO0 hc2
  have t6 := fI_of hc2 p4
  refine ur_ldA rfl rfl ?_
  refine ur_ldI rfl rfl ?_
  refine ur_inl rfl (rcv_of hc2) (Nat.le_of_ble_eq_true rfl) (Nat.le_of_ble_eq_true rfl) (sg_isComet hO0 _ (fun w7 hr8 => ?_))
  obtain ⟨b9, rfl, t10⟩ := hr8
  show uRun _ (uCall Mt _) _ 5 (_, [(.inl (bi b9))], _, _, _)
  refine ur_eqB rfl (fun c11 => ?_) (fun c11 => ?_)
  · refine ur_push rfl ?_
    exact ur_ret rfl rfl (hQ _ _ ⟨_, rfl⟩ hO0 un.rf (by omega) hX0)
  · have t12 := t10 c11
    refine ur_ldI rfl rfl ?_
    refine ur_callv rfl rfl (Nat.le_of_ble_eq_true rfl) (Nat.le_of_ble_eq_true rfl) rfl (sq_isRet _ _) ?_
    refine ur_neB rfl (fun c15 => ?_) (fun c15 => ?_)
    · have t16 := wi_toL c15 l_m60 l_60
      refine ur_ldA rfl rfl ?_
      refine ur_ldI rfl rfl ?_
      refine ur_ldI rfl rfl ?_
      refine ur_inl rfl (rcv_of hc2) (Nat.le_of_ble_eq_true rfl) (Nat.le_of_ble_eq_true rfl) (sf_X12_passOf hO0 hX0 _ (by show 0 ≤ a1.toInt ∧ a1.toInt ≤ 11; omega) _ (by show -60 ≤ a2.toInt ∧ a2.toInt ≤ 60; omega) (fun w17 h19 hr18 hO19 hv19 => ?_))
      have hu19 : un [72, 73, 74, 75, 76, 77, 78, 79, 80, 81, 7904] h0 h19 := hv19.mono (by decide)
      obtain ⟨x20, rfl, t21⟩ := hr18
      show uRun _ (uCall Mt _) _ 23 (_, [(.inl x20)], _, _, _)
      refine ur_svIk [some (.inr (.inr (some 69))), some (.inl a1), some (.inl a2), some (.inl x20), none, none] rfl rfl ?_
      refine ur_ldI rfl rfl ?_
      refine ur_if1 rfl (fun c22 => ?_) (fun c22 => ?_)
      · have t23 := le_to c22
        refine ur_ldA rfl rfl ?_
        obtain ⟨fs24, hc25⟩ := hO19.mod
        refine ur_get rfl hc25 (mf_12 hO19 hc25) ?_
        refine ur_ldI rfl rfl ?_
        obtain ⟨xs27, hc26, hn28, he29⟩ := hO19.int (hO19.fix 79 (by decide) rfl)
        refine ur_aldV rfl hc26 hn28 (by omega) (fun x30 hx31 => ?_)
        refine ur_push rfl ?_
        refine ur_if2 rfl (fun c32 => ?_) (fun c32 => ?_)
        · have t33 := eq_to c32
          refine ur_ldA rfl rfl ?_
          obtain ⟨f34, p35, t36⟩ := mf_4 hO19 hc25
          have t37 := fI_of hc25 p35
          refine ur_get rfl hc25 p35 ?_
          refine ur_push rfl ?_
          refine ur_binV rfl (fun x38 e39 => ?_)
          have z40 := any_r f34
          have t41 := ti_add e39 (by omega) (by omega)
          refine ur_push rfl ?_
          refine ur_if2 rfl (fun c42 => ?_) (fun c42 => ?_)
          · have t43 := le_to c42
            refine ur_ldA rfl rfl ?_
            refine ur_get rfl hc25 (mf_10 hO19 hc25) ?_
            refine ur_ldI rfl rfl ?_
            obtain ⟨xs45, hc44, hn46, he47⟩ := hO19.int (hO19.fix 77 (by decide) rfl)
            refine ur_aldV rfl hc44 hn46 (by omega) (fun x48 hx49 => ?_)
            refine ur_if1 rfl (fun c50 => ?_) (fun c50 => ?_)
            · have t51 := ne_to c50
              refine ur_ldA rfl rfl ?_
              refine ur_get rfl hc25 (mf_10 hO19 hc25) ?_
              refine ur_ldI rfl rfl ?_
              refine ur_aldV rfl hc44 hn46 (by omega) (fun x52 hx53 => ?_)
              obtain rfl : x48 = x52 := Option.some.inj (hx49.symm.trans hx53)
              refine ur_push rfl ?_
              refine ur_binV rfl (fun x54 e55 => ?_)
              have z56 := any_r x48
              refine ur_svIk [some (.inr (.inr (some 69))), some (.inl a1), some (.inl a2), some (.inl x20), some (.inl x54), none] rfl rfl ?_
              refine ur_ldA rfl rfl ?_
              refine ur_ldI rfl rfl ?_
              refine ur_ldA rfl rfl ?_
              refine ur_get rfl hc25 (mf_6 hO19 hc25) ?_
              refine ur_ldI rfl rfl ?_
              obtain ⟨xs58, hc57, hn59, he60⟩ := hO19.int (hO19.fix 73 (by decide) rfl)
              refine ur_aldV rfl hc57 hn59 (by omega) (fun x61 hx62 => ?_)
              refine ur_push rfl ?_
              refine ur_binV rfl (fun x63 e64 => ?_)
              have z65 := any_r x61
              refine ur_ldA rfl rfl ?_
              refine ur_get rfl hc25 (mf_7 hO19 hc25) ?_
              refine ur_ldI rfl rfl ?_
              obtain ⟨xs67, hc66, hn68, he69⟩ := hO19.int (hO19.fix 74 (by decide) rfl)
              refine ur_aldV rfl hc66 hn68 (by omega) (fun x70 hx71 => ?_)
              refine ur_push rfl ?_
              refine ur_binV rfl (fun x72 e73 => ?_)
              have z74 := any_r x70
              refine ur_push rfl ?_
              refine ur_divV rfl (by decide) (fun x75 e76 => ?_)
              have z77 := any_r x72
              have t78 : 0 ≤ x72.toInt → x75.toInt = x72.toInt % 360 := fun q => ti_rem e76 l_360 (by decide) q
              refine ur_ldA rfl rfl ?_
              refine ur_get rfl hc25 (mf_8 hO19 hc25) ?_
              refine ur_ldI rfl rfl ?_
              obtain ⟨xs80, hc79, hn81, he82⟩ := hO19.int (hO19.fix 75 (by decide) rfl)
              refine ur_aldV rfl hc79 hn81 (by omega) (fun x83 hx84 => ?_)
              have t85 : 0 ≤ x83.toInt ∧ x83.toInt ≤ 99 := he82 _ _ hx84
              have t86 := fI_keep (k := 4) hO0 hO19 hv19 rfl (by decide)
              have t87 := SX.rx (j := a1) (hX0.un hO0 hO19 hv19 (by decide)) hc79 hx84 (by omega)
              refine ur_ldA rfl rfl ?_
              refine ur_get rfl hc25 (mf_9 hO19 hc25) ?_
              refine ur_ldI rfl rfl ?_
              obtain ⟨xs89, hc88, hn90, he91⟩ := hO19.int (hO19.fix 76 (by decide) rfl)
              refine ur_aldV rfl hc88 hn90 (by omega) (fun x92 hx93 => ?_)
              refine ur_ldI rfl rfl ?_
              refine ur_ldI rfl rfl ?_
              refine ur_inl rfl (rcv_of hc25) (Nat.le_of_ble_eq_true rfl) (Nat.le_of_ble_eq_true rfl) (sf_X12_newComet hO19 (hX0.un hO0 hO19 hv19 (by decide)) _ (by show 0 ≤ x20.toInt ∧ x20.toInt ≤ 999999; omega) _ _ _ (by show 5 ≤ x83.toInt ∧ x83.toInt ≤ 99; omega) _ _ _ (by show -1 ≤ a1.toInt ∧ a1.toInt ≤ 11; omega) (by omega) (by omega) (fun w94 h98 hr95 hO98 hv98 hp96 hp97 => ?_))
              have hu98 : un [72, 73, 74, 75, 76, 77, 78, 79, 80, 81, 7904] h19 h98 := hv98.mono (by decide)
              obtain ⟨x99, rfl⟩ := hr95
              show uRun _ (uCall Mt _) _ 123 (_, [(.inl x99)], _, _, _)
              refine ur_svIk [some (.inr (.inr (some 69))), some (.inl a1), some (.inl a2), some (.inl x20), some (.inl x54), some (.inl x99)] rfl rfl ?_
              refine ur_ldA rfl rfl ?_
              refine ur_ldI rfl rfl ?_
              refine ur_ldA rfl rfl ?_
              obtain ⟨fs100, hc101⟩ := hO98.mod
              refine ur_get rfl hc101 (mf_6 hO98 hc101) ?_
              refine ur_ldI rfl rfl ?_
              obtain ⟨xs103, hc102, hn104, he105⟩ := hO98.int (hO98.fix 73 (by decide) rfl)
              refine ur_aldV rfl hc102 hn104 (by omega) (fun x106 hx107 => ?_)
              refine ur_push rfl ?_
              refine ur_binV rfl (fun x108 e109 => ?_)
              have z110 := any_r x106
              refine ur_ldA rfl rfl ?_
              refine ur_get rfl hc101 (mf_7 hO98 hc101) ?_
              refine ur_ldI rfl rfl ?_
              obtain ⟨xs112, hc111, hn113, he114⟩ := hO98.int (hO98.fix 74 (by decide) rfl)
              refine ur_aldV rfl hc111 hn113 (by omega) (fun x115 hx116 => ?_)
              refine ur_push rfl ?_
              refine ur_binV rfl (fun x117 e118 => ?_)
              have z119 := any_r x115
              refine ur_push rfl ?_
              refine ur_divV rfl (by decide) (fun x120 e121 => ?_)
              have z122 := any_r x117
              have t123 : 0 ≤ x117.toInt → x120.toInt = x117.toInt % 360 := fun q => ti_rem e121 l_360 (by decide) q
              refine ur_ldA rfl rfl ?_
              refine ur_get rfl hc101 (mf_8 hO98 hc101) ?_
              refine ur_ldI rfl rfl ?_
              obtain ⟨xs125, hc124, hn126, he127⟩ := hO98.int (hO98.fix 75 (by decide) rfl)
              refine ur_aldV rfl hc124 hn126 (by omega) (fun x128 hx129 => ?_)
              have t130 : 0 ≤ x128.toInt ∧ x128.toInt ≤ 99 := he127 _ _ hx129
              have t131 := SX.rx (j := a1) hp97 hc124 hx129 (by omega)
              refine ur_ldA rfl rfl ?_
              refine ur_get rfl hc101 (mf_9 hO98 hc101) ?_
              refine ur_ldI rfl rfl ?_
              obtain ⟨xs133, hc132, hn134, he135⟩ := hO98.int (hO98.fix 76 (by decide) rfl)
              refine ur_aldV rfl hc132 hn134 (by omega) (fun x136 hx137 => ?_)
              refine ur_ldI rfl rfl ?_
              refine ur_ldI rfl rfl ?_
              obtain ⟨f138, p139, t140⟩ := mf_4 hO98 hc101
              have t141 := fI_of hc101 p139
              refine ur_inl rfl (rcv_of hc101) (Nat.le_of_ble_eq_true rfl) (Nat.le_of_ble_eq_true rfl) (sf_X12_newComet hO98 hp97 _ (by show 0 ≤ x20.toInt ∧ x20.toInt ≤ 999999; omega) _ _ _ (by show 5 ≤ x128.toInt ∧ x128.toInt ≤ 99; omega) _ _ _ (by show -1 ≤ a1.toInt ∧ a1.toInt ≤ 11; omega) (by omega) (by omega) (fun w142 h146 hr143 hO146 hv146 hp144 hp145 => ?_))
              have hu146 : un [72, 73, 74, 75, 76, 77, 78, 79, 80, 81, 7904] h98 h146 := hv146.mono (by decide)
              obtain ⟨x147, rfl⟩ := hr143
              show uRun _ (uCall Mt _) _ 168 (_, [(.inl x147)], _, _, _)
              refine ur_pop rfl rfl ?_
              refine ur_ldA rfl rfl ?_
              obtain ⟨fs148, hc149⟩ := hO146.mod
              refine ur_get rfl hc149 (mf_12 hO146 hc149) ?_
              refine ur_ldI rfl rfl ?_
              refine ur_ldI rfl rfl ?_
              obtain ⟨xs151, hc150, hn152, he153⟩ := hO146.int (hO146.fix 79 (by decide) rfl)
              refine ur_astV (W := [79]) (m := 12) rfl hO146 hc150 (by decide) hn152 (by omega) (any_r _) (Or.inr (Or.inr (wid_fix (by decide) (by decide)))) (fun h156 hO156 hv156 d154 hc155 => ?_)
              have hu156 : un [72, 73, 74, 75, 76, 77, 78, 79, 80, 81, 7904] h146 h156 := hv156.mono (by decide)
              refine ur_ldI rfl rfl ?_
              obtain ⟨f157, p158, t159⟩ := mf_4 hO156 ((d154 _ (by decide)).trans hc149)
              have t160 := fI_of ((d154 _ (by decide)).trans hc149) p158
              have t161 := fI_keep (k := 4) hO146 hO156 hv156 rfl (by decide)
              exact ur_ret rfl rfl (hQ _ _ ⟨_, rfl⟩ hO156 (hu19.tr (hu98.tr (hu146.tr hu156))) (by omega) (hp145.un hO146 hO156 hv156 (by decide)))
            · have t162 := ne_no c50
              refine ur_push rfl ?_
              refine ur_go rfl ?_
              refine ur_svIk [some (.inr (.inr (some 69))), some (.inl a1), some (.inl a2), some (.inl x20), some (.inl 0), none] rfl rfl ?_
              refine ur_ldA rfl rfl ?_
              refine ur_ldI rfl rfl ?_
              refine ur_ldA rfl rfl ?_
              refine ur_get rfl hc25 (mf_6 hO19 hc25) ?_
              refine ur_ldI rfl rfl ?_
              obtain ⟨xs164, hc163, hn165, he166⟩ := hO19.int (hO19.fix 73 (by decide) rfl)
              refine ur_aldV rfl hc163 hn165 (by omega) (fun x167 hx168 => ?_)
              refine ur_push rfl ?_
              refine ur_binV rfl (fun x169 e170 => ?_)
              have z171 := any_r x167
              refine ur_ldA rfl rfl ?_
              refine ur_get rfl hc25 (mf_7 hO19 hc25) ?_
              refine ur_ldI rfl rfl ?_
              obtain ⟨xs173, hc172, hn174, he175⟩ := hO19.int (hO19.fix 74 (by decide) rfl)
              refine ur_aldV rfl hc172 hn174 (by omega) (fun x176 hx177 => ?_)
              refine ur_push rfl ?_
              refine ur_binV rfl (fun x178 e179 => ?_)
              have z180 := any_r x176
              refine ur_push rfl ?_
              refine ur_divV rfl (by decide) (fun x181 e182 => ?_)
              have z183 := any_r x178
              have t184 : 0 ≤ x178.toInt → x181.toInt = x178.toInt % 360 := fun q => ti_rem e182 l_360 (by decide) q
              refine ur_ldA rfl rfl ?_
              refine ur_get rfl hc25 (mf_8 hO19 hc25) ?_
              refine ur_ldI rfl rfl ?_
              obtain ⟨xs186, hc185, hn187, he188⟩ := hO19.int (hO19.fix 75 (by decide) rfl)
              refine ur_aldV rfl hc185 hn187 (by omega) (fun x189 hx190 => ?_)
              have t191 : 0 ≤ x189.toInt ∧ x189.toInt ≤ 99 := he188 _ _ hx190
              have t192 := fI_keep (k := 4) hO0 hO19 hv19 rfl (by decide)
              have t193 := SX.rx (j := a1) (hX0.un hO0 hO19 hv19 (by decide)) hc185 hx190 (by omega)
              refine ur_ldA rfl rfl ?_
              refine ur_get rfl hc25 (mf_9 hO19 hc25) ?_
              refine ur_ldI rfl rfl ?_
              obtain ⟨xs195, hc194, hn196, he197⟩ := hO19.int (hO19.fix 76 (by decide) rfl)
              refine ur_aldV rfl hc194 hn196 (by omega) (fun x198 hx199 => ?_)
              refine ur_ldI rfl rfl ?_
              refine ur_ldI rfl rfl ?_
              refine ur_inl rfl (rcv_of hc25) (Nat.le_of_ble_eq_true rfl) (Nat.le_of_ble_eq_true rfl) (sf_X12_newComet hO19 (hX0.un hO0 hO19 hv19 (by decide)) _ (by show 0 ≤ x20.toInt ∧ x20.toInt ≤ 999999; omega) _ _ _ (by show 5 ≤ x189.toInt ∧ x189.toInt ≤ 99; omega) _ _ _ (by show -1 ≤ a1.toInt ∧ a1.toInt ≤ 11; omega) (by omega) (by omega) (fun w200 h204 hr201 hO204 hv204 hp202 hp203 => ?_))
              have hu204 : un [72, 73, 74, 75, 76, 77, 78, 79, 80, 81, 7904] h19 h204 := hv204.mono (by decide)
              obtain ⟨x205, rfl⟩ := hr201
              show uRun _ (uCall Mt _) _ 123 (_, [(.inl x205)], _, _, _)
              refine ur_svIk [some (.inr (.inr (some 69))), some (.inl a1), some (.inl a2), some (.inl x20), some (.inl 0), some (.inl x205)] rfl rfl ?_
              refine ur_ldA rfl rfl ?_
              refine ur_ldI rfl rfl ?_
              refine ur_ldA rfl rfl ?_
              obtain ⟨fs206, hc207⟩ := hO204.mod
              refine ur_get rfl hc207 (mf_6 hO204 hc207) ?_
              refine ur_ldI rfl rfl ?_
              obtain ⟨xs209, hc208, hn210, he211⟩ := hO204.int (hO204.fix 73 (by decide) rfl)
              refine ur_aldV rfl hc208 hn210 (by omega) (fun x212 hx213 => ?_)
              refine ur_push rfl ?_
              refine ur_binV rfl (fun x214 e215 => ?_)
              have z216 := any_r x212
              refine ur_ldA rfl rfl ?_
              refine ur_get rfl hc207 (mf_7 hO204 hc207) ?_
              refine ur_ldI rfl rfl ?_
              obtain ⟨xs218, hc217, hn219, he220⟩ := hO204.int (hO204.fix 74 (by decide) rfl)
              refine ur_aldV rfl hc217 hn219 (by omega) (fun x221 hx222 => ?_)
              refine ur_push rfl ?_
              refine ur_binV rfl (fun x223 e224 => ?_)
              have z225 := any_r x221
              refine ur_push rfl ?_
              refine ur_divV rfl (by decide) (fun x226 e227 => ?_)
              have z228 := any_r x223
              have t229 : 0 ≤ x223.toInt → x226.toInt = x223.toInt % 360 := fun q => ti_rem e227 l_360 (by decide) q
              refine ur_ldA rfl rfl ?_
              refine ur_get rfl hc207 (mf_8 hO204 hc207) ?_
              refine ur_ldI rfl rfl ?_
              obtain ⟨xs231, hc230, hn232, he233⟩ := hO204.int (hO204.fix 75 (by decide) rfl)
              refine ur_aldV rfl hc230 hn232 (by omega) (fun x234 hx235 => ?_)
              have t236 : 0 ≤ x234.toInt ∧ x234.toInt ≤ 99 := he233 _ _ hx235
              have t237 := SX.rx (j := a1) hp203 hc230 hx235 (by omega)
              refine ur_ldA rfl rfl ?_
              refine ur_get rfl hc207 (mf_9 hO204 hc207) ?_
              refine ur_ldI rfl rfl ?_
              obtain ⟨xs239, hc238, hn240, he241⟩ := hO204.int (hO204.fix 76 (by decide) rfl)
              refine ur_aldV rfl hc238 hn240 (by omega) (fun x242 hx243 => ?_)
              refine ur_ldI rfl rfl ?_
              refine ur_ldI rfl rfl ?_
              obtain ⟨f244, p245, t246⟩ := mf_4 hO204 hc207
              have t247 := fI_of hc207 p245
              refine ur_inl rfl (rcv_of hc207) (Nat.le_of_ble_eq_true rfl) (Nat.le_of_ble_eq_true rfl) (sf_X12_newComet hO204 hp203 _ (by show 0 ≤ x20.toInt ∧ x20.toInt ≤ 999999; omega) _ _ _ (by show 5 ≤ x234.toInt ∧ x234.toInt ≤ 99; omega) _ _ _ (by show -1 ≤ a1.toInt ∧ a1.toInt ≤ 11; omega) (by omega) (by omega) (fun w248 h252 hr249 hO252 hv252 hp250 hp251 => ?_))
              have hu252 : un [72, 73, 74, 75, 76, 77, 78, 79, 80, 81, 7904] h204 h252 := hv252.mono (by decide)
              obtain ⟨x253, rfl⟩ := hr249
              show uRun _ (uCall Mt _) _ 168 (_, [(.inl x253)], _, _, _)
              refine ur_pop rfl rfl ?_
              refine ur_ldA rfl rfl ?_
              obtain ⟨fs254, hc255⟩ := hO252.mod
              refine ur_get rfl hc255 (mf_12 hO252 hc255) ?_
              refine ur_ldI rfl rfl ?_
              refine ur_ldI rfl rfl ?_
              obtain ⟨xs257, hc256, hn258, he259⟩ := hO252.int (hO252.fix 79 (by decide) rfl)
              refine ur_astV (W := [79]) (m := 12) rfl hO252 hc256 (by decide) hn258 (by omega) (any_r _) (Or.inr (Or.inr (wid_fix (by decide) (by decide)))) (fun h262 hO262 hv262 d260 hc261 => ?_)
              have hu262 : un [72, 73, 74, 75, 76, 77, 78, 79, 80, 81, 7904] h252 h262 := hv262.mono (by decide)
              refine ur_ldI rfl rfl ?_
              obtain ⟨f263, p264, t265⟩ := mf_4 hO262 ((d260 _ (by decide)).trans hc255)
              have t266 := fI_of ((d260 _ (by decide)).trans hc255) p264
              have t267 := fI_keep (k := 4) hO252 hO262 hv262 rfl (by decide)
              exact ur_ret rfl rfl (hQ _ _ ⟨_, rfl⟩ hO262 (hu19.tr (hu204.tr (hu252.tr hu262))) (by omega) (hp251.un hO252 hO262 hv262 (by decide)))
          · have t268 := le_no c42
            refine ur_push rfl ?_
            have t269 := fI_keep (k := 4) hO0 hO19 hv19 rfl (by decide)
            exact ur_ret rfl rfl (hQ _ _ ⟨_, rfl⟩ hO19 hu19 (by omega) (hX0.un hO0 hO19 hv19 (by decide)))
        · have t270 := eq_no c32
          refine ur_push rfl ?_
          obtain ⟨f271, p272, t273⟩ := mf_4 hO19 hc25
          have t274 := fI_of hc25 p272
          have t275 := fI_keep (k := 4) hO0 hO19 hv19 rfl (by decide)
          exact ur_ret rfl rfl (hQ _ _ ⟨_, rfl⟩ hO19 hu19 (by omega) (hX0.un hO0 hO19 hv19 (by decide)))
      · have t276 := le_no c22
        refine ur_push rfl ?_
        obtain ⟨fs277, hc278⟩ := hO19.mod
        obtain ⟨f279, p280, t281⟩ := mf_4 hO19 hc278
        have t282 := fI_of hc278 p280
        have t283 := fI_keep (k := 4) hO0 hO19 hv19 rfl (by decide)
        exact ur_ret rfl rfl (hQ _ _ ⟨_, rfl⟩ hO19 hu19 (by omega) (hX0.un hO0 hO19 hv19 (by decide)))
    · have t284 := wi_noL c15 l_m60 l_60
      refine ur_push rfl ?_
      exact ur_ret rfl rfl (hQ _ _ ⟨_, rfl⟩ hO0 un.rf (by omega) hX0)
end CT9
