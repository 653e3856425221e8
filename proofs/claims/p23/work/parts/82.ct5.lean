/-! CONTRACTS of the reference, the second part, printed by program -/
section CT5
set_option maxRecDepth 20000 in
set_option maxHeartbeats 4000000 in
theorem sg_isComet {d kc ks : Nat} {h0 : aH} {Q : Option aV → aH → Prop} (hO0 : OK h0) (a1 : Int32) (hQ : ∀ r, (∃ q, r = some (.inl (bi q)) ∧ (q = true → 0 ≤ a1.toInt ∧ a1.toInt ≤ 11 ∧ a1.toInt < fI h0 4)) → Q r h0) : uCall Mt (d + 2) 187 [(.inr (.inr (some 69))), (.inl a1)] h0 kc ks Q := by
  have l_0 : ((0) : Int32).toInt = 0 := by decide
  have l_1 : ((1) : Int32).toInt = 1 := by decide
  refine uc_ink [some (.inr (.inr (some 69))), some (.inl a1)] mt_187 (Nat.le_of_ble_eq_true rfl) rfl ?_
  obtain ⟨fs1, hc2⟩ := hO0.mod
  obtain ⟨f3, p4, t5⟩ := mf_4 hO0 hc2
  have t6 := fI_of hc2 p4
  refine ur_ldI rfl rfl ?_
  refine ur_push rfl ?_
  refine ur_ldA rfl rfl ?_
  refine ur_get rfl hc2 p4 ?_
  refine ur_push rfl ?_
  refine ur_binV rfl (fun x7 e8 => ?_)
  have z9 := any_r f3
  have t10 := ti_sub e8 (by omega) (by omega)
  refine ur_callv rfl rfl (Nat.le_of_ble_eq_true rfl) (Nat.le_of_ble_eq_true rfl) rfl (sp_in _ _ _ _ _) ?_
  exact ur_ret rfl (bi_ret _) (hQ _ ⟨_, rfl, fun e => by have w := wi_to e; omega⟩ )

set_option maxRecDepth 20000 in
set_option maxHeartbeats 4000000 in
theorem sg_placeFor {d kc ks : Nat} {h0 : aH} {Q : Option aV → aH → Prop} (a0 : Int32) (b0 : 0 ≤ a0.toInt ∧ a0.toInt ≤ 18) (hQ : ∀ r, (∃ x : Int32, r = some (.inl x) ∧ (a0.toInt < 2 ∧ x.toInt = a0.toInt ∨ 2 ≤ a0.toInt ∧ x.toInt = a0.toInt - 8)) → Q r h0) : uCall Mt (d + 1) 226 [(.inl a0)] h0 kc ks Q := by
  have l_2 : ((2) : Int32).toInt = 2 := by decide
  have l_8 : ((8) : Int32).toInt = 8 := by decide
  refine uc_ink [some (.inl a0)] mt_226 (Nat.le_of_ble_eq_true rfl) rfl ?_
  refine ur_ldI rfl rfl ?_
  refine ur_push rfl ?_
  refine ur_if2 rfl (fun c1 => ?_) (fun c1 => ?_)
  · have t2 := le_to c1
    refine ur_ldI rfl rfl ?_
    refine ur_push rfl ?_
    refine ur_binV rfl (fun x3 e4 => ?_)
    have z5 := any_r a0
    have t6 := ti_sub e4 (by omega) (by omega)
    exact ur_ret rfl rfl (hQ _ ⟨_, rfl, by omega⟩ )
  · have t7 := le_no c1
    refine ur_ldI rfl rfl ?_
    refine ur_go rfl ?_
    exact ur_ret rfl rfl (hQ _ ⟨_, rfl, by omega⟩ )

set_option maxRecDepth 20000 in
set_option maxHeartbeats 4000000 in
theorem sf_X12_standsOn {d kc ks : Nat} {h0 : aH} {Q : Option aV → aH → Prop} (hO0 : OK h0) (hX0 : SX h0) (a1 : Int32) (b1 : 0 ≤ a1.toInt ∧ a1.toInt ≤ 11) (a2 : Int32) (a3 : Int32) (pre0 : a1.toInt < fI h0 4) (hQ : ∀ r h', (∃ q, r = some (.inl (bi q))) → OK h' → un [] h0 h' → Q r h') : uCall Mt (d + 3) 204 [(.inr (.inr (some 69))), (.inl a1), (.inl a2), (.inl a3)] h0 kc ks Q := by
  have l_0 : ((0) : Int32).toInt = 0 := by decide
  have l_1 : ((1) : Int32).toInt = 1 := by decide
  have l_120 : ((120) : Int32).toInt = 120 := by decide
  have l_360 : ((360) : Int32).toInt = 360 := by decide
  refine uc_ink [some (.inr (.inr (some 69))), some (.inl a1), some (.inl a2), some (.inl a3)] mt_204 (Nat.le_of_ble_eq_true rfl) rfl ?_
  obtain ⟨fs1, hc2⟩ := hO0.mod
  obtain ⟨f3, p4, t5⟩ := mf_4 hO0 hc2
  have t6 := fI_of hc2 p4
  refine ur_ldA rfl rfl ?_
  refine ur_ldI rfl rfl ?_
  refine ur_ldI rfl rfl ?_
  refine ur_binV rfl (fun x7 e8 => ?_)
  have z9 := any_r a3
  have z10 := any_r a2
  obtain ⟨f11, p12⟩ := mf_17 hO0 hc2
  refine ur_putM (W := []) rfl hO0 hc2 (by decide) rfl (ms_17 (hO0.msh hc2)) (Or.inl rfl) (fun h14 hO14 hu14 d13 hc15 => ?_)
  refine ur_ldA rfl rfl ?_
  refine ur_get rfl hc15 (gs_eq p12) ?_
  have t16 := fI_keep (k := 4) hO0 hO14 hu14 rfl (by decide)
  refine ur_inl rfl rfl (Nat.le_of_ble_eq_true rfl) (Nat.le_of_ble_eq_true rfl) (sf_X12_sizeOf _ (fun w17 hr18 => ?_))
  obtain ⟨x19, rfl, t20⟩ := hr18
  show uRun _ (uCall Mt _) _ 14 (_, [(.inl x19)], _, _, _)
  refine ur_push rfl ?_
  refine ur_if2 rfl (fun c21 => ?_) (fun c21 => ?_)
  · have t22 := le_to c21
    refine ur_ldA rfl rfl ?_
    refine ur_ldA rfl rfl ?_
    refine ur_get rfl hc15 (mf_7 hO14 hc15) ?_
    refine ur_ldI rfl rfl ?_
    obtain ⟨xs24, hc23, hn25, he26⟩ := hO14.int (hO14.fix 74 (by decide) rfl)
    refine ur_aldV rfl hc23 hn25 (by omega) (fun x27 hx28 => ?_)
    refine ur_ldA rfl rfl ?_
    refine ur_get rfl hc15 (mf_9 hO14 hc15) ?_
    refine ur_ldI rfl rfl ?_
    obtain ⟨xs30, hc29, hn31, he32⟩ := hO14.int (hO14.fix 76 (by decide) rfl)
    refine ur_aldV rfl hc29 hn31 (by omega) (fun x33 hx34 => ?_)
    refine ur_ldA rfl rfl ?_
    refine ur_get rfl hc15 (gs_eq p12) ?_
    refine ur_ldA rfl rfl ?_
    refine ur_get rfl hc15 (mf_8 hO14 hc15) ?_
    refine ur_ldI rfl rfl ?_
    obtain ⟨xs36, hc35, hn37, he38⟩ := hO14.int (hO14.fix 75 (by decide) rfl)
    refine ur_aldV rfl hc35 hn37 (by omega) (fun x39 hx40 => ?_)
    have t41 : 0 ≤ x39.toInt ∧ x39.toInt ≤ 99 := he38 _ _ hx40
    have t42 := SX.rx (j := a1) (hX0.un hO0 hO14 hu14 (by decide)) hc35 hx40 (by omega)
    refine ur_inl rfl rfl (Nat.le_of_ble_eq_true rfl) (Nat.le_of_ble_eq_true rfl) (sf_X12_turned _ _ _ (by show 1 ≤ x39.toInt ∧ x39.toInt ≤ 99; omega) (fun w43 hr44 => ?_))
    obtain ⟨x45, rfl⟩ := hr44
    show uRun _ (uCall Mt _) _ 47 (_, [(.inl x45), (.inl x27), (.inr (.inr (some 69)))], _, _, _)
    refine ur_binV rfl (fun x46 e47 => ?_)
    have z48 := any_r x27
    have z49 := any_r x45
    refine ur_push rfl ?_
    refine ur_binV rfl (fun x50 e51 => ?_)
    have z52 := any_r x46
    refine ur_push rfl ?_
    refine ur_divV rfl (by decide) (fun x53 e54 => ?_)
    have z55 := any_r x50
    have t56 : 0 ≤ x50.toInt → x53.toInt = x50.toInt % 360 := fun q => ti_rem e54 l_360 (by decide) q
    obtain ⟨f57, p58⟩ := mf_15 hO14 hc15
    refine ur_putM (W := []) rfl hO14 hc15 (by decide) rfl (ms_15 (hO14.msh hc15)) (Or.inl rfl) (fun h60 hO60 hu60 d59 hc61 => ?_)
    refine ur_ldA rfl rfl ?_
    refine ur_ldA rfl rfl ?_
    refine ur_get rfl hc61 (mf_8 hO60 hc61) ?_
    refine ur_ldI rfl rfl ?_
    refine ur_aldV rfl ((d59 _ (by decide)).trans hc35) hn37 (by omega) (fun x62 hx63 => ?_)
    obtain rfl : x39 = x62 := Option.some.inj (hx40.symm.trans hx63)
    refine ur_ldA rfl rfl ?_
    refine ur_get rfl hc61 (gs_ne (gs_eq p12) (by decide)) ?_
    have t64 := fI_keep (k := 4) hO0 hO60 (hu14.tr hu60) rfl (by decide)
    refine ur_inl rfl rfl (Nat.le_of_ble_eq_true rfl) (Nat.le_of_ble_eq_true rfl) (sf_X12_sizeOf _ (fun w65 hr66 => ?_))
    obtain ⟨x67, rfl, t68⟩ := hr66
    show uRun _ (uCall Mt _) _ 73 (_, [(.inl x67), (.inl x39), (.inr (.inr (some 69)))], _, _, _)
    refine ur_binV rfl (fun x69 e70 => ?_)
    have z71 := any_r x39
    have z72 := any_r x67
    obtain ⟨f73, p74⟩ := mf_16 hO60 hc61
    refine ur_putM (W := []) rfl hO60 hc61 (by decide) rfl (ms_16 (hO60.msh hc61)) (Or.inl rfl) (fun h76 hO76 hu76 d75 hc77 => ?_)
    refine ur_push rfl ?_
    have t78 := fI_of hc77 (gs_ne (gs_ne (gs_ne p4 (by decide)) (by decide)) (by decide))
    have t79 := fI_keep (k := 4) hO0 hO76 (hu14.tr (hu60.tr hu76)) rfl (by decide)
    exact ur_ret rfl rfl (hQ _ _ ⟨true, rfl⟩ hO76 (hu14.tr (hu60.tr hu76)))
  · have t80 := le_no c21
    refine ur_push rfl ?_
    have t81 := fI_of hc15 (gs_ne p4 (by decide))
    exact ur_ret rfl rfl (hQ _ _ ⟨false, rfl⟩ hO14 hu14)

set_option maxRecDepth 20000 in
set_option maxHeartbeats 4000000 in
theorem sf_X12_rootOf {d kc ks : Nat} {h0 : aH} {Q : Option aV → aH → Prop} (hO0 : OK h0) (hX0 : SX h0) (a1 : Int32) (b1 : 0 ≤ a1.toInt ∧ a1.toInt ≤ 149) (pre0 : a1.toInt < fI h0 38) (hQ : ∀ r, (∃ x : Int32, r = some (.inl x) ∧ (0 ≤ x.toInt ∧ x.toInt ≤ 149 ∧ x.toInt < fI h0 38)) → Q r h0) : uCall Mt (d + 1) 241 [(.inr (.inr (some 69))), (.inl a1)] h0 kc ks Q := by
  have l_3 : ((3) : Int32).toInt = 3 := by decide
  refine uc_ink [some (.inr (.inr (some 69))), some (.inl a1), none] mt_241 (Nat.le_of_ble_eq_true rfl) rfl ?_
  obtain ⟨fs1, hc2⟩ := hO0.mod
  obtain ⟨f3, p4, t5⟩ := mf_38 hO0 hc2
  have t6 := fI_of hc2 p4
  refine ur_ldI rfl rfl ?_
  refine ur_svIk [some (.inr (.inr (some 69))), some (.inl a1), some (.inl a1)] rfl rfl ?_
  have L8 : ∀ (m9 : Nat) (x7 : Int32) , ((0 ≤ x7.toInt ∧ x7.toInt ≤ 149) ∧ x7.toInt < fI h0 38) → (x7.toInt.toNat) < m9 → uRun oX12_rootOf (uCall Mt (d + 0)) Q 2 ([some (.inr (.inr (some 69))), some (.inl a1), some (.inl x7)], [], h0, kc, ks) := by
    intro m9
    induction m9 with
    | zero => intro x7 iv11 mm12; omega
    | succ m9 ih10 =>
      intro x7 iv11 mm12
      refine ur_ldA rfl rfl ?_
      refine ur_get rfl hc2 (mf_39 hO0 hc2) ?_
      refine ur_ldI rfl rfl ?_
      obtain ⟨xs14, hc13, hn15, he16⟩ := hO0.int (hO0.fix 96 (by decide) rfl)
      refine ur_aldV rfl hc13 hn15 (by omega) (fun x17 hx18 => ?_)
      have t19 : 0 ≤ x17.toInt ∧ x17.toInt ≤ 7 := he16 _ _ hx18
      refine ur_push rfl ?_
      refine ur_if2 rfl (fun c20 => ?_) (fun c20 => ?_)
      · have t21 := ne_to c20
        refine ur_ldI rfl rfl ?_
        exact ur_ret rfl rfl (hQ _ ⟨_, rfl, by omega⟩ )
      · have t22 := ne_no c20
        refine ur_ldA rfl rfl ?_
        refine ur_get rfl hc2 (mf_46 hO0 hc2) ?_
        refine ur_ldI rfl rfl ?_
        obtain ⟨xs24, hc23, hn25, he26⟩ := hO0.int (hO0.fix 103 (by decide) rfl)
        refine ur_aldV rfl hc23 hn25 (by omega) (fun x27 hx28 => ?_)
        have t29 : -1 ≤ x27.toInt ∧ x27.toInt ≤ 149 := he26 _ _ hx28
        have t30 := SX.wx (j := x7) hX0 hc13 hx18 hc23 hx28 (by omega) (by omega)
        refine ur_svIk [some (.inr (.inr (some 69))), some (.inl a1), some (.inl x27)] rfl rfl ?_
        refine ur_go rfl ?_
        have z31 := any_r x27
        exact ih10 x27 (by omega) (by omega)
  have z32 := any_r a1
  exact L8 _ a1 (by omega) (Nat.lt_succ_self _)

set_option maxRecDepth 20000 in
set_option maxHeartbeats 4000000 in
theorem sf_X12_spansOf {d kc ks : Nat} {h0 : aH} {Q : Option aV → aH → Prop} (hO0 : OK h0) (hX0 : SX h0) (a1 : Int32) (b1 : 0 ≤ a1.toInt ∧ a1.toInt ≤ 149) (pre0 : a1.toInt < fI h0 38) (hQ : ∀ r, (∃ x, r = some (.inl x)) → Q r h0) : uCall Mt (d + 2) 242 [(.inr (.inr (some 69))), (.inl a1)] h0 kc ks Q := by
  have l_0 : ((0) : Int32).toInt = 0 := by decide
  have l_1 : ((1) : Int32).toInt = 1 := by decide
  refine uc_ink [some (.inr (.inr (some 69))), some (.inl a1), none] mt_242 (Nat.le_of_ble_eq_true rfl) rfl ?_
  obtain ⟨fs1, hc2⟩ := hO0.mod
  obtain ⟨f3, p4, t5⟩ := mf_38 hO0 hc2
  have t6 := fI_of hc2 p4
  refine ur_ldA rfl rfl ?_
  refine ur_get rfl hc2 (mf_44 hO0 hc2) ?_
  refine ur_ldA rfl rfl ?_
  refine ur_ldI rfl rfl ?_
  refine ur_inl rfl (rcv_of hc2) (Nat.le_of_ble_eq_true rfl) (Nat.le_of_ble_eq_true rfl) (sf_X12_rootOf hO0 hX0 _ (by show 0 ≤ a1.toInt ∧ a1.toInt ≤ 149; omega) (by omega) (fun w7 hr8 => ?_))
  obtain ⟨x9, rfl, t10⟩ := hr8
  show uRun _ (uCall Mt _) _ 9 (_, [(.inl x9), (.inr (.inr (some 101)))], _, _, _)
  obtain ⟨xs12, hc11, hn13, he14⟩ := hO0.int (hO0.fix 101 (by decide) rfl)
  refine ur_aldV rfl hc11 hn13 (by omega) (fun x15 hx16 => ?_)
  have t17 : -1 ≤ x15.toInt ∧ x15.toInt ≤ 19 := he14 _ _ hx16
  refine ur_svIk [some (.inr (.inr (some 69))), some (.inl a1), some (.inl x15)] rfl rfl ?_
  refine ur_ldI rfl rfl ?_
  refine ur_if1 rfl (fun c18 => ?_) (fun c18 => ?_)
  · have t19 := le_to c18
    refine ur_ldA rfl rfl ?_
    refine ur_get rfl hc2 (mf_32 hO0 hc2) ?_
    refine ur_ldI rfl rfl ?_
    obtain ⟨xs21, hc20, hn22, he23⟩ := hO0.int (hO0.fix 91 (by decide) rfl)
    refine ur_aldV rfl hc20 hn22 (by omega) (fun x24 hx25 => ?_)
    exact ur_ret rfl rfl (hQ _ ⟨_, rfl⟩ )
  · have t26 := le_no c18
    refine ur_push rfl ?_
    refine ur_go rfl ?_
    exact ur_ret rfl rfl (hQ _ ⟨_, rfl⟩ )

end CT5
