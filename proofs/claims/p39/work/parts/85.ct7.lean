/-! CONTRACTS of the reference, the fourth part, printed by program -/
section CT7
set_option maxRecDepth 20000 in
set_option maxHeartbeats 4000000 in
theorem sf_X12_tailNow {d kc ks : Nat} {h0 : aH} {Q : Option aV → aH → Prop} (hO0 : OK h0) (hX0 : SX h0) (a1 : Int32) (b1 : 0 ≤ a1.toInt ∧ a1.toInt ≤ 11) (a2 : Int32) (a3 : Int32) (hQ : ∀ r h', (∃ x : Int32, r = some (.inl x) ∧ 0 ≤ x.toInt ∧ x.toInt ≤ 99) → OK h' → un [] h0 h' → Q r h') : uCall Mt (d + 5) 207 [(.inr (.inr (some 69))), (.inl a1), (.inl a2), (.inl a3)] h0 kc ks Q := by
  have l_0 : ((0) : Int32).toInt = 0 := by decide
  have l_1 : ((1) : Int32).toInt = 1 := by decide
  have l_99 : ((99) : Int32).toInt = 99 := by decide
  refine uc_ink [some (.inr (.inr (some 69))), some (.inl a1), some (.inl a2), some (.inl a3), none] mt_207 (Nat.le_of_ble_eq_true rfl) rfl ?_
  refine ur_ldA rfl rfl ?_
  refine ur_ldI rfl rfl ?_
  refine ur_ldI rfl rfl ?_
  refine ur_ldI rfl rfl ?_
  obtain ⟨fs1, hc2⟩ := hO0.mod
  refine ur_inl rfl (rcv_of hc2) (Nat.le_of_ble_eq_true rfl) (Nat.le_of_ble_eq_true rfl) (sf_X12_findFacts hO0 _ (by show 0 ≤ a1.toInt ∧ a1.toInt ≤ 11; omega) _ _ (fun w3 h5 hr4 hO5 hv5 => ?_))
  have hu5 := hv5
  subst hr4
  show uRun _ (uCall Mt _) _ 7 (_, [], _, _, _)
  refine ur_ldA rfl rfl ?_
  obtain ⟨fs6, hc7⟩ := hO5.mod
  refine ur_get rfl hc7 (mf_26 hO5 hc7) ?_
  refine ur_push rfl ?_
  obtain ⟨xs9, hc8, hn10, he11⟩ := hO5.int (hO5.fix 85 (by decide) rfl)
  refine ur_aldV rfl hc8 hn10 (by omega) (fun x12 hx13 => ?_)
  have t14 : 0 ≤ x12.toInt ∧ x12.toInt ≤ 61 := he11 _ _ hx13
  refine ur_if1 rfl (fun c15 => ?_) (fun c15 => ?_)
  · have t16 := ne_to c15
    refine ur_ldA rfl rfl ?_
    refine ur_push rfl ?_
    refine ur_inl rfl (rcv_of hc7) (Nat.le_of_ble_eq_true rfl) (Nat.le_of_ble_eq_true rfl) (sf_X12_gives hO5 (hX0.un hO0 hO5 hu5 (by decide)) _ (by show 0 ≤ (1 : Int32).toInt ∧ (1 : Int32).toInt ≤ 10; omega) (fun w17 h19 hr18 hO19 hv19 => ?_))
    have hu19 := hv19
    obtain ⟨x20, rfl⟩ := hr18
    show uRun _ (uCall Mt _) _ 25 (_, [(.inl x20)], _, _, _)
    refine ur_svIk [some (.inr (.inr (some 69))), some (.inl a1), some (.inl a2), some (.inl a3), some (.inl x20)] rfl rfl ?_
    refine ur_ldI rfl rfl ?_
    refine ur_if1 rfl (fun c21 => ?_) (fun c21 => ?_)
    · have t22 := le_to c21
      refine ur_ldI rfl rfl ?_
      refine ur_push rfl ?_
      refine ur_if2 rfl (fun c23 => ?_) (fun c23 => ?_)
      · have t24 := le_to c23
        refine ur_ldI rfl rfl ?_
        exact ur_ret rfl rfl (hQ _ _ ⟨_, rfl, by omega⟩ hO19 (hu5.tr hu19))
      · have t25 := le_no c23
        refine ur_push rfl ?_
        refine ur_go rfl ?_
        exact ur_ret rfl rfl (hQ _ _ ⟨_, rfl, by omega⟩ hO19 (hu5.tr hu19))
    · have t26 := le_no c21
      refine ur_push rfl ?_
      refine ur_go rfl ?_
      exact ur_ret rfl rfl (hQ _ _ ⟨_, rfl, by omega⟩ hO19 (hu5.tr hu19))
  · have t27 := ne_no c15
    refine ur_push rfl ?_
    refine ur_go rfl ?_
    refine ur_svIk [some (.inr (.inr (some 69))), some (.inl a1), some (.inl a2), some (.inl a3), some (.inl 0)] rfl rfl ?_
    refine ur_ldI rfl rfl ?_
    refine ur_if1t rfl (by decide) ?_
    refine ur_ldI rfl rfl ?_
    refine ur_push rfl ?_
    refine ur_if2t rfl (by decide) ?_
    refine ur_ldI rfl rfl ?_
    exact ur_ret rfl rfl (hQ _ _ ⟨_, rfl, by omega⟩ hO5 hu5)

set_option maxRecDepth 20000 in
set_option maxHeartbeats 4000000 in
theorem sf_X12_canSee {d kc ks : Nat} {h0 : aH} {Q : Option aV → aH → Prop} (hO0 : OK h0) (hX0 : SX h0) (a1 : Int32) (b1 : 0 ≤ a1.toInt ∧ a1.toInt ≤ 11) (a2 : Int32) (a3 : Int32) (a4 : Int32) (pre0 : a1.toInt < fI h0 4) (hQ : ∀ r h', (∃ q, r = some (.inl (bi q))) → OK h' → un [] h0 h' → Q r h') : uCall Mt (d + 5) 208 [(.inr (.inr (some 69))), (.inl a1), (.inl a2), (.inl a3), (.inl a4)] h0 kc ks Q := by
  have l_0 : ((0) : Int32).toInt = 0 := by decide
  have l_1 : ((1) : Int32).toInt = 1 := by decide
  have l_15 : ((15) : Int32).toInt = 15 := by decide
  refine uc_ink [some (.inr (.inr (some 69))), some (.inl a1), some (.inl a2), some (.inl a3), some (.inl a4)] mt_208 (Nat.le_of_ble_eq_true rfl) rfl ?_
  obtain ⟨fs1, hc2⟩ := hO0.mod
  obtain ⟨f3, p4, t5⟩ := mf_4 hO0 hc2
  have t6 := fI_of hc2 p4
  refine ur_ldA rfl rfl ?_
  refine ur_ldI rfl rfl ?_
  refine ur_ldI rfl rfl ?_
  refine ur_ldI rfl rfl ?_
  refine ur_inl rfl (rcv_of hc2) (Nat.le_of_ble_eq_true rfl) (Nat.le_of_ble_eq_true rfl) (sf_X12_standsOn hO0 hX0 _ (by show 0 ≤ a1.toInt ∧ a1.toInt ≤ 11; omega) _ _ (by omega) (fun w7 h9 hr8 hO9 hv9 => ?_))
  have hu9 := hv9
  obtain ⟨b10, rfl⟩ := hr8
  show uRun _ (uCall Mt _) _ 8 (_, [(.inl (bi b10))], _, _, _)
  refine ur_eqB rfl (fun c11 => ?_) (fun c11 => ?_)
  · refine ur_push rfl ?_
    obtain ⟨fs12, hc13⟩ := hO9.mod
    obtain ⟨f14, p15, t16⟩ := mf_4 hO9 hc13
    have t17 := fI_of hc13 p15
    have t18 := fI_keep (k := 4) hO0 hO9 hu9 rfl (by decide)
    exact ur_ret rfl rfl (hQ _ _ ⟨false, rfl⟩ hO9 hu9)
  · refine ur_ldA rfl rfl ?_
    refine ur_ldI rfl rfl ?_
    obtain ⟨fs19, hc20⟩ := hO9.mod
    have t21 := fI_keep (k := 4) hO0 hO9 hu9 rfl (by decide)
    refine ur_inl rfl (rcv_of hc20) (Nat.le_of_ble_eq_true rfl) (Nat.le_of_ble_eq_true rfl) (sf_X12_sunApart hO9 _ (fun w22 hr23 => ?_))
    obtain ⟨x24, rfl⟩ := hr23
    show uRun _ (uCall Mt _) _ 17 (_, [(.inl x24)], _, _, _)
    refine ur_push rfl ?_
    refine ur_if2 rfl (fun c25 => ?_) (fun c25 => ?_)
    · have t26 := le_to c25
      refine ur_ldA rfl rfl ?_
      refine ur_get rfl hc20 (mf_26 hO9 hc20) ?_
      refine ur_push rfl ?_
      obtain ⟨xs28, hc27, hn29, he30⟩ := hO9.int (hO9.fix 85 (by decide) rfl)
      refine ur_aldV rfl hc27 hn29 (by omega) (fun x31 hx32 => ?_)
      have t33 : 0 ≤ x31.toInt ∧ x31.toInt ≤ 61 := he30 _ _ hx32
      refine ur_if1 rfl (fun c34 => ?_) (fun c34 => ?_)
      · have t35 := ne_to c34
        refine ur_ldA rfl rfl ?_
        refine ur_ldI rfl rfl ?_
        refine ur_ldI rfl rfl ?_
        refine ur_ldI rfl rfl ?_
        refine ur_inl rfl (rcv_of hc20) (Nat.le_of_ble_eq_true rfl) (Nat.le_of_ble_eq_true rfl) (sf_X12_findFacts hO9 _ (by show 0 ≤ a1.toInt ∧ a1.toInt ≤ 11; omega) _ _ (fun w36 h38 hr37 hO38 hv38 => ?_))
        have hu38 := hv38
        subst hr37
        show uRun _ (uCall Mt _) _ 43 (_, [], _, _, _)
        refine ur_ldA rfl rfl ?_
        refine ur_push rfl ?_
        obtain ⟨fs39, hc40⟩ := hO38.mod
        have t41 := fI_keep (k := 4) hO0 hO38 (hu9.tr hu38) rfl (by decide)
        refine ur_inl rfl (rcv_of hc40) (Nat.le_of_ble_eq_true rfl) (Nat.le_of_ble_eq_true rfl) (sf_X12_gives hO38 (hX0.un hO0 hO38 (hu9.tr hu38) (by decide)) _ (by show 0 ≤ (0 : Int32).toInt ∧ (0 : Int32).toInt ≤ 10; omega) (fun w42 h44 hr43 hO44 hv44 => ?_))
        have hu44 := hv44
        obtain ⟨x45, rfl⟩ := hr43
        show uRun _ (uCall Mt _) _ 48 (_, [(.inl x45)], _, _, _)
        refine ur_if1 rfl (fun c46 => ?_) (fun c46 => ?_)
        · have t47 := eq_to c46
          refine ur_push rfl ?_
          obtain ⟨fs48, hc49⟩ := hO44.mod
          obtain ⟨f50, p51, t52⟩ := mf_4 hO44 hc49
          have t53 := fI_of hc49 p51
          have t54 := fI_keep (k := 4) hO0 hO44 (hu9.tr (hu38.tr hu44)) rfl (by decide)
          exact ur_ret rfl rfl (hQ _ _ ⟨false, rfl⟩ hO44 (hu9.tr (hu38.tr hu44)))
        · have t55 := eq_no c46
          refine ur_push rfl ?_
          refine ur_go rfl ?_
          obtain ⟨fs56, hc57⟩ := hO44.mod
          obtain ⟨f58, p59, t60⟩ := mf_4 hO44 hc57
          have t61 := fI_of hc57 p59
          have t62 := fI_keep (k := 4) hO0 hO44 (hu9.tr (hu38.tr hu44)) rfl (by decide)
          exact ur_ret rfl rfl (hQ _ _ ⟨true, rfl⟩ hO44 (hu9.tr (hu38.tr hu44)))
      · have t63 := ne_no c34
        refine ur_push rfl ?_
        obtain ⟨f64, p65, t66⟩ := mf_4 hO9 hc20
        have t67 := fI_of hc20 p65
        exact ur_ret rfl rfl (hQ _ _ ⟨true, rfl⟩ hO9 hu9)
    · have t68 := le_no c25
      refine ur_push rfl ?_
      obtain ⟨f69, p70, t71⟩ := mf_4 hO9 hc20
      have t72 := fI_of hc20 p70
      exact ur_ret rfl rfl (hQ _ _ ⟨false, rfl⟩ hO9 hu9)

set_option maxRecDepth 20000 in
set_option maxHeartbeats 4000000 in
theorem sf_X12_stands {d kc ks : Nat} {h0 : aH} {Q : Option aV → aH → Prop} (hO0 : OK h0) (hX0 : SX h0) (a1 : Int32) (a2 : Int32) (a3 : Int32) (a4 : Int32) (hQ : ∀ r h', (∃ x, r = some (.inl x)) → OK h' → un [80, 81] h0 h' → Q r h') : uCall Mt (d + 6) 209 [(.inr (.inr (some 69))), (.inl a1), (.inl a2), (.inl a3), (.inl a4)] h0 kc ks Q := by
  have l_m60 : ((-60) : Int32).toInt = -60 := by decide
  have l_m2 : ((-2) : Int32).toInt = -2 := by decide
  have l_m1 : ((-1) : Int32).toInt = -1 := by decide
  have l_0 : ((0) : Int32).toInt = 0 := by decide
  have l_1 : ((1) : Int32).toInt = 1 := by decide
  have l_2 : ((2) : Int32).toInt = 2 := by decide
  have l_3 : ((3) : Int32).toInt = 3 := by decide
  have l_60 : ((60) : Int32).toInt = 60 := by decide
  have l_999999 : ((999999) : Int32).toInt = 999999 := by decide
  refine uc_ink [some (.inr (.inr (some 69))), some (.inl a1), some (.inl a2), some (.inl a3), some (.inl a4), none] mt_209 (Nat.le_of_ble_eq_true rfl) rfl ?_
  obtain ⟨fs1, hc2⟩ := hO0.mod
  obtain ⟨f3, p4, t5⟩ := mf_4 hO0 hc2
  have t6 := fI_of hc2 p4
  refine ur_ldA rfl rfl ?_
  refine ur_ldI rfl rfl ?_
  refine ur_inl rfl (rcv_of hc2) (Nat.le_of_ble_eq_true rfl) (Nat.le_of_ble_eq_true rfl) (sg_isComet hO0 _ (fun w7 hr8 => ?_))
  obtain ⟨b9, rfl, t10⟩ := hr8
  show uRun _ (uCall Mt _) _ 5 (_, [(.inl (bi b9))], _, _, _)
  refine ur_eqB rfl (fun c11 => ?_) (fun c11 => ?_)
  · refine ur_push rfl ?_
    exact ur_ret rfl rfl (hQ _ _ ⟨_, rfl⟩ hO0 un.rf)
  · have t12 := t10 c11
    refine ur_ldI rfl rfl ?_
    refine ur_callv rfl rfl (Nat.le_of_ble_eq_true rfl) (Nat.le_of_ble_eq_true rfl) rfl (sq_isRet _ _) ?_
    refine ur_eqB rfl (fun c15 => ?_) (fun c15 => ?_)
    · have t16 := wi_noL c15 l_m60 l_60
      refine ur_push rfl ?_
      exact ur_ret rfl rfl (hQ _ _ ⟨_, rfl⟩ hO0 un.rf)
    · have t17 := wi_toL c15 l_m60 l_60
      refine ur_ldI rfl rfl ?_
      refine ur_callv rfl rfl (Nat.le_of_ble_eq_true rfl) (Nat.le_of_ble_eq_true rfl) rfl (sq_isDay _ _) ?_
      refine ur_eqB rfl (fun c20 => ?_) (fun c20 => ?_)
      · have t21 := wi_noL c20 l_0 l_999999
        refine ur_push rfl ?_
        exact ur_ret rfl rfl (hQ _ _ ⟨_, rfl⟩ hO0 un.rf)
      · have t22 := wi_toL c20 l_0 l_999999
        refine ur_ldI rfl rfl ?_
        refine ur_push rfl ?_
        refine ur_push rfl ?_
        refine ur_callv rfl rfl (Nat.le_of_ble_eq_true rfl) (Nat.le_of_ble_eq_true rfl) rfl (sp_in _ _ _ _ _) ?_
        refine ur_neB rfl (fun c25 => ?_) (fun c25 => ?_)
        · have t26 := wi_toL c25 l_0 l_3
          refine ur_ldA rfl rfl ?_
          refine ur_ldI rfl rfl ?_
          refine ur_ldI rfl rfl ?_
          refine ur_inl rfl (rcv_of hc2) (Nat.le_of_ble_eq_true rfl) (Nat.le_of_ble_eq_true rfl) (sf_X12_passOf hO0 hX0 _ (by show 0 ≤ a1.toInt ∧ a1.toInt ≤ 11; omega) _ (by show -60 ≤ a2.toInt ∧ a2.toInt ≤ 60; omega) (fun w27 h29 hr28 hO29 hv29 => ?_))
          have hu29 := hv29
          obtain ⟨x30, rfl, t31⟩ := hr28
          show uRun _ (uCall Mt _) _ 40 (_, [(.inl x30)], _, _, _)
          refine ur_svIk [some (.inr (.inr (some 69))), some (.inl a1), some (.inl a2), some (.inl a3), some (.inl a4), some (.inl x30)] rfl rfl ?_
          refine ur_ldI rfl rfl ?_
          refine ur_if1 rfl (fun c32 => ?_) (fun c32 => ?_)
          · have t33 := lt_to c32
            refine ur_push rfl ?_
            obtain ⟨fs34, hc35⟩ := hO29.mod
            obtain ⟨f36, p37, t38⟩ := mf_4 hO29 hc35
            have t39 := fI_of hc35 p37
            have t40 := fI_keep (k := 4) hO0 hO29 hu29 rfl (by decide)
            exact ur_ret rfl rfl (hQ _ _ ⟨_, rfl⟩ hO29 hu29)
          · have t41 := lt_no c32
            refine ur_ldA rfl rfl ?_
            refine ur_ldI rfl rfl ?_
            refine ur_ldI rfl rfl ?_
            refine ur_ldI rfl rfl ?_
            obtain ⟨fs42, hc43⟩ := hO29.mod
            obtain ⟨f44, p45, t46⟩ := mf_4 hO29 hc43
            have t47 := fI_of hc43 p45
            have t48 := fI_keep (k := 4) hO0 hO29 hu29 rfl (by decide)
            refine ur_inl rfl (rcv_of hc43) (Nat.le_of_ble_eq_true rfl) (Nat.le_of_ble_eq_true rfl) (sf_X12_standsOn hO29 (hX0.un hO0 hO29 hu29 (by decide)) _ (by show 0 ≤ a1.toInt ∧ a1.toInt ≤ 11; omega) _ _ (by omega) (fun w49 h51 hr50 hO51 hv51 => ?_))
            have hu51 : un [80, 81] h29 h51 := hv51.mono (by decide)
            obtain ⟨b52, rfl⟩ := hr50
            show uRun _ (uCall Mt _) _ 55 (_, [(.inl (bi b52))], _, _, _)
            refine ur_neB rfl (fun c53 => ?_) (fun c53 => ?_)
            · refine ur_ldI rfl rfl ?_
              refine ur_if1 rfl (fun c54 => ?_) (fun c54 => ?_)
              · have t55 := ne_to c54
                refine ur_ldI rfl rfl ?_
                refine ur_push rfl ?_
                refine ur_if2 rfl (fun c56 => ?_) (fun c56 => ?_)
                · have t57 := ne_to c56
                  refine ur_ldI rfl rfl ?_
                  refine ur_push rfl ?_
                  refine ur_if2 rfl (fun c58 => ?_) (fun c58 => ?_)
                  · have t59 := ne_to c58
                    refine ur_ldA rfl rfl ?_
                    refine ur_ldI rfl rfl ?_
                    refine ur_push rfl ?_
                    refine ur_ldI rfl rfl ?_
                    obtain ⟨fs60, hc61⟩ := hO51.mod
                    have t62 := fI_keep (k := 4) hO0 hO51 (hu29.tr hu51) rfl (by decide)
                    refine ur_inl rfl (rcv_of hc61) (Nat.le_of_ble_eq_true rfl) (Nat.le_of_ble_eq_true rfl) (sf_X12_tailNow hO51 (hX0.un hO0 hO51 (hu29.tr hu51) (by decide)) _ (by show 0 ≤ a1.toInt ∧ a1.toInt ≤ 11; omega) _ _ (fun w63 h65 hr64 hO65 hv65 => ?_))
                    have hu65 : un [80, 81] h51 h65 := hv65.mono (by decide)
                    obtain ⟨x66, rfl, t67⟩ := hr64
                    show uRun _ (uCall Mt _) _ 107 (_, [(.inl x66)], _, _, _)
                    obtain ⟨fs68, hc69⟩ := hO65.mod
                    obtain ⟨f70, p71, t72⟩ := mf_4 hO65 hc69
                    have t73 := fI_of hc69 p71
                    have t74 := fI_keep (k := 4) hO0 hO65 (hu29.tr (hu51.tr hu65)) rfl (by decide)
                    exact ur_ret rfl rfl (hQ _ _ ⟨_, rfl⟩ hO65 (hu29.tr (hu51.tr hu65)))
                  · have t75 := ne_no c58
                    refine ur_ldA rfl rfl ?_
                    refine ur_ldI rfl rfl ?_
                    obtain ⟨fs76, hc77⟩ := hO51.mod
                    have t78 := fI_keep (k := 4) hO0 hO51 (hu29.tr hu51) rfl (by decide)
                    refine ur_inl rfl (rcv_of hc77) (Nat.le_of_ble_eq_true rfl) (Nat.le_of_ble_eq_true rfl) (sf_X12_sunApart hO51 _ (fun w79 hr80 => ?_))
                    obtain ⟨x81, rfl⟩ := hr80
                    show uRun _ (uCall Mt _) _ 97 (_, [(.inl x81)], _, _, _)
                    refine ur_go rfl ?_
                    obtain ⟨f82, p83, t84⟩ := mf_4 hO51 hc77
                    have t85 := fI_of hc77 p83
                    exact ur_ret rfl rfl (hQ _ _ ⟨_, rfl⟩ hO51 (hu29.tr hu51))
                · have t86 := ne_no c56
                  refine ur_ldA rfl rfl ?_
                  obtain ⟨fs87, hc88⟩ := hO51.mod
                  obtain ⟨f89, p90⟩ := mf_16 hO51 hc88
                  refine ur_get rfl hc88 p90 ?_
                  refine ur_go rfl ?_
                  obtain ⟨f91, p92, t93⟩ := mf_4 hO51 hc88
                  have t94 := fI_of hc88 p92
                  have t95 := fI_keep (k := 4) hO0 hO51 (hu29.tr hu51) rfl (by decide)
                  exact ur_ret rfl rfl (hQ _ _ ⟨_, rfl⟩ hO51 (hu29.tr hu51))
              · have t96 := ne_no c54
                refine ur_ldA rfl rfl ?_
                obtain ⟨fs97, hc98⟩ := hO51.mod
                obtain ⟨f99, p100⟩ := mf_15 hO51 hc98
                refine ur_get rfl hc98 p100 ?_
                refine ur_go rfl ?_
                obtain ⟨f101, p102, t103⟩ := mf_4 hO51 hc98
                have t104 := fI_of hc98 p102
                have t105 := fI_keep (k := 4) hO0 hO51 (hu29.tr hu51) rfl (by decide)
                exact ur_ret rfl rfl (hQ _ _ ⟨_, rfl⟩ hO51 (hu29.tr hu51))
            · refine ur_push rfl ?_
              obtain ⟨fs106, hc107⟩ := hO51.mod
              obtain ⟨f108, p109, t110⟩ := mf_4 hO51 hc107
              have t111 := fI_of hc107 p109
              have t112 := fI_keep (k := 4) hO0 hO51 (hu29.tr hu51) rfl (by decide)
              exact ur_ret rfl rfl (hQ _ _ ⟨_, rfl⟩ hO51 (hu29.tr hu51))
        · have t113 := wi_noL c25 l_0 l_3
          refine ur_push rfl ?_
          exact ur_ret rfl rfl (hQ _ _ ⟨_, rfl⟩ hO0 un.rf)

set_option maxRecDepth 20000 in
set_option maxHeartbeats 4000000 in
theorem sf_X12_seenBy {d kc ks : Nat} {h0 : aH} {Q : Option aV → aH → Prop} (hO0 : OK h0) (hX0 : SX h0) (a1 : Int32) (b1 : 0 ≤ a1.toInt ∧ a1.toInt ≤ 11) (a2 : Int32) (a3 : Int32) (pre0 : a1.toInt < fI h0 4) (hQ : ∀ r h', (∃ x : Int32, r = some (.inl x) ∧ -60 ≤ x.toInt ∧ x.toInt ≤ 61) → OK h' → un [80, 81] h0 h' → Q r h') : uCall Mt (d + 6) 210 [(.inr (.inr (some 69))), (.inl a1), (.inl a2), (.inl a3)] h0 kc ks Q := by
  have l_m60 : ((-60) : Int32).toInt = -60 := by decide
  have l_0 : ((0) : Int32).toInt = 0 := by decide
  have l_1 : ((1) : Int32).toInt = 1 := by decide
  have l_60 : ((60) : Int32).toInt = 60 := by decide
  have l_61 : ((61) : Int32).toInt = 61 := by decide
  have l_120 : ((120) : Int32).toInt = 120 := by decide
  refine uc_ink [some (.inr (.inr (some 69))), some (.inl a1), some (.inl a2), some (.inl a3), none, none] mt_210 (Nat.le_of_ble_eq_true rfl) rfl ?_
  obtain ⟨fs1, hc2⟩ := hO0.mod
  obtain ⟨f3, p4, t5⟩ := mf_4 hO0 hc2
  have t6 := fI_of hc2 p4
  refine ur_push rfl ?_
  refine ur_svIk [some (.inr (.inr (some 69))), some (.inl a1), some (.inl a2), some (.inl a3), some (.inl (-60)), none] rfl rfl ?_
  have L9 : ∀ (m10 : Nat) (x7 : Int32) (u8 : Option aV) (h12 : aH) , OK h12 → un [80, 81] h0 h12 → ((-60 ≤ x7.toInt ∧ x7.toInt ≤ 2147483647)) → ((2147483648 - x7.toInt).toNat) < m10 → uRun oX12_seenBy (uCall Mt (d + 5)) Q 4 ([some (.inr (.inr (some 69))), some (.inl a1), some (.inl a2), some (.inl a3), some (.inl x7), u8], [], h12, kc, ks) := by
    intro m10
    induction m10 with
    | zero => intro x7 u8 h12 hO12 hu12 iv13 mm14; omega
    | succ m10 ih11 =>
      intro x7 u8 h12 hO12 hu12 iv13 mm14
      refine ur_ldI rfl rfl ?_
      refine ur_push rfl ?_
      refine ur_if2 rfl (fun c15 => ?_) (fun c15 => ?_)
      · have t16 := lt_to c15
        refine ur_push rfl ?_
        obtain ⟨fs17, hc18⟩ := hO12.mod
        obtain ⟨f19, p20, t21⟩ := mf_4 hO12 hc18
        have t22 := fI_of hc18 p20
        have t23 := fI_keep (k := 4) hO0 hO12 hu12 rfl (by decide)
        exact ur_ret rfl rfl (hQ _ _ ⟨_, rfl, by omega⟩ hO12 hu12)
      · have t24 := lt_no c15
        refine ur_ldA rfl rfl ?_
        refine ur_ldI rfl rfl ?_
        refine ur_ldI rfl rfl ?_
        obtain ⟨fs25, hc26⟩ := hO12.mod
        have t27 := fI_keep (k := 4) hO0 hO12 hu12 rfl (by decide)
        refine ur_inl rfl (rcv_of hc26) (Nat.le_of_ble_eq_true rfl) (Nat.le_of_ble_eq_true rfl) (sf_X12_passOf hO12 (hX0.un hO0 hO12 hu12 (by decide)) _ (by show 0 ≤ a1.toInt ∧ a1.toInt ≤ 11; omega) _ (by show -60 ≤ x7.toInt ∧ x7.toInt ≤ 60; omega) (fun w28 h30 hr29 hO30 hv30 => ?_))
        have hu30 := hv30
        obtain ⟨x31, rfl, t32⟩ := hr29
        show uRun _ (uCall Mt _) _ 18 (_, [(.inl x31)], _, _, _)
        refine ur_svIk [some (.inr (.inr (some 69))), some (.inl a1), some (.inl a2), some (.inl a3), some (.inl x7), some (.inl x31)] rfl rfl ?_
        refine ur_ldI rfl rfl ?_
        refine ur_if1 rfl (fun c33 => ?_) (fun c33 => ?_)
        · have t34 := lt_to c33
          refine ur_incV (fun z => [some (.inr (.inr (some 69))), some (.inl a1), some (.inl a2), some (.inl a3), some (.inl z), some (.inl x31)]) rfl rfl (fun _ => rfl) (fun x35 e36 => ?_)
          have z37 := any_r x7
          have t38 := ti_add e36 (by omega) (by omega)
          refine ur_go rfl ?_
          obtain ⟨fs39, hc40⟩ := hO30.mod
          obtain ⟨f41, p42, t43⟩ := mf_4 hO30 hc40
          have t44 := fI_of hc40 p42
          have z45 := any_r x35
          exact ih11 x35 _ _ hO30 (hu12.tr hu30) (by omega) (by omega)
        · have t46 := lt_no c33
          refine ur_ldI rfl rfl ?_
          refine ur_ldI rfl rfl ?_
          refine ur_binV rfl (fun x47 e48 => ?_)
          have z49 := any_r a3
          have z50 := any_r x31
          have t51 := fI_keep (k := 4) hO0 hO30 (hu12.tr hu30) rfl (by decide)
          refine ur_inl rfl rfl (Nat.le_of_ble_eq_true rfl) (Nat.le_of_ble_eq_true rfl) (sf_X12_sizeOf _ (fun w52 hr53 => ?_))
          obtain ⟨x54, rfl, t55⟩ := hr53
          show uRun _ (uCall Mt _) _ 32 (_, [(.inl x54)], _, _, _)
          refine ur_push rfl ?_
          refine ur_if2 rfl (fun c56 => ?_) (fun c56 => ?_)
          · have t57 := lt_to c56
            refine ur_incV (fun z => [some (.inr (.inr (some 69))), some (.inl a1), some (.inl a2), some (.inl a3), some (.inl z), some (.inl x31)]) rfl rfl (fun _ => rfl) (fun x58 e59 => ?_)
            have z60 := any_r x7
            have t61 := ti_add e59 (by omega) (by omega)
            refine ur_go rfl ?_
            obtain ⟨fs62, hc63⟩ := hO30.mod
            obtain ⟨f64, p65, t66⟩ := mf_4 hO30 hc63
            have t67 := fI_of hc63 p65
            have z68 := any_r x58
            exact ih11 x58 _ _ hO30 (hu12.tr hu30) (by omega) (by omega)
          · have t69 := lt_no c56
            refine ur_ldA rfl rfl ?_
            refine ur_ldI rfl rfl ?_
            refine ur_ldI rfl rfl ?_
            refine ur_ldI rfl rfl ?_
            refine ur_ldI rfl rfl ?_
            obtain ⟨fs70, hc71⟩ := hO30.mod
            obtain ⟨f72, p73, t74⟩ := mf_4 hO30 hc71
            have t75 := fI_of hc71 p73
            refine ur_inl rfl (rcv_of hc71) (Nat.le_of_ble_eq_true rfl) (Nat.le_of_ble_eq_true rfl) (sf_X12_canSee hO30 (hX0.un hO0 hO30 (hu12.tr hu30) (by decide)) _ (by show 0 ≤ a1.toInt ∧ a1.toInt ≤ 11; omega) _ _ _ (by omega) (fun w76 h78 hr77 hO78 hv78 => ?_))
            have hu78 : un [80, 81] h30 h78 := hv78.mono (by decide)
            obtain ⟨b79, rfl⟩ := hr77
            show uRun _ (uCall Mt _) _ 46 (_, [(.inl (bi b79))], _, _, _)
            refine ur_eqB rfl (fun c80 => ?_) (fun c80 => ?_)
            · refine ur_incV (fun z => [some (.inr (.inr (some 69))), some (.inl a1), some (.inl a2), some (.inl a3), some (.inl z), some (.inl x31)]) rfl rfl (fun _ => rfl) (fun x81 e82 => ?_)
              have z83 := any_r x7
              have t84 := ti_add e82 (by omega) (by omega)
              refine ur_go rfl ?_
              obtain ⟨fs85, hc86⟩ := hO78.mod
              obtain ⟨f87, p88, t89⟩ := mf_4 hO78 hc86
              have t90 := fI_of hc86 p88
              have z91 := any_r x81
              exact ih11 x81 _ _ hO78 (hu12.tr (hu30.tr hu78)) (by omega) (by omega)
            · refine ur_ldI rfl rfl ?_
              obtain ⟨fs92, hc93⟩ := hO78.mod
              obtain ⟨f94, p95, t96⟩ := mf_4 hO78 hc93
              have t97 := fI_of hc93 p95
              have t98 := fI_keep (k := 4) hO0 hO78 (hu12.tr (hu30.tr hu78)) rfl (by decide)
              exact ur_ret rfl rfl (hQ _ _ ⟨_, rfl, by omega⟩ hO78 (hu12.tr (hu30.tr hu78)))
  exact L9 _ (-60) (none) _ hO0 un.rf (by omega) (Nat.lt_succ_self _)

set_option maxRecDepth 20000 in
set_option maxHeartbeats 4000000 in
theorem sf_X12_seen {d kc ks : Nat} {h0 : aH} {Q : Option aV → aH → Prop} (hO0 : OK h0) (hX0 : SX h0) (a1 : Int32) (a2 : Int32) (a3 : Int32) (hQ : ∀ r h', (∃ x, r = some (.inl x)) → OK h' → un [80, 81] h0 h' → Q r h') : uCall Mt (d + 7) 211 [(.inr (.inr (some 69))), (.inl a1), (.inl a2), (.inl a3)] h0 kc ks Q := by
  have l_m2000000000 : ((-2000000000) : Int32).toInt = -2000000000 := by decide
  have l_0 : ((0) : Int32).toInt = 0 := by decide
  have l_8 : ((8) : Int32).toInt = 8 := by decide
  have l_60 : ((60) : Int32).toInt = 60 := by decide
  have l_999999 : ((999999) : Int32).toInt = 999999 := by decide
  refine uc_ink [some (.inr (.inr (some 69))), some (.inl a1), some (.inl a2), some (.inl a3), none] mt_211 (Nat.le_of_ble_eq_true rfl) rfl ?_
  obtain ⟨fs1, hc2⟩ := hO0.mod
  obtain ⟨f3, p4, t5⟩ := mf_4 hO0 hc2
  have t6 := fI_of hc2 p4
  refine ur_ldA rfl rfl ?_
  refine ur_ldI rfl rfl ?_
  refine ur_inl rfl (rcv_of hc2) (Nat.le_of_ble_eq_true rfl) (Nat.le_of_ble_eq_true rfl) (sg_isComet hO0 _ (fun w7 hr8 => ?_))
  obtain ⟨b9, rfl, t10⟩ := hr8
  show uRun _ (uCall Mt _) _ 5 (_, [(.inl (bi b9))], _, _, _)
  refine ur_eqB rfl (fun c11 => ?_) (fun c11 => ?_)
  · refine ur_push rfl ?_
    exact ur_ret rfl rfl (hQ _ _ ⟨_, rfl⟩ hO0 un.rf)
  · have t12 := t10 c11
    refine ur_ldI rfl rfl ?_
    refine ur_callv rfl rfl (Nat.le_of_ble_eq_true rfl) (Nat.le_of_ble_eq_true rfl) rfl (sq_isPpl _ _) ?_
    refine ur_eqB rfl (fun c15 => ?_) (fun c15 => ?_)
    · have t16 := wi_noL c15 l_0 l_8
      refine ur_push rfl ?_
      exact ur_ret rfl rfl (hQ _ _ ⟨_, rfl⟩ hO0 un.rf)
    · have t17 := wi_toL c15 l_0 l_8
      refine ur_ldI rfl rfl ?_
      refine ur_callv rfl rfl (Nat.le_of_ble_eq_true rfl) (Nat.le_of_ble_eq_true rfl) rfl (sq_isDay _ _) ?_
      refine ur_neB rfl (fun c20 => ?_) (fun c20 => ?_)
      · have t21 := wi_toL c20 l_0 l_999999
        refine ur_ldA rfl rfl ?_
        refine ur_ldI rfl rfl ?_
        refine ur_ldI rfl rfl ?_
        refine ur_ldI rfl rfl ?_
        refine ur_inl rfl (rcv_of hc2) (Nat.le_of_ble_eq_true rfl) (Nat.le_of_ble_eq_true rfl) (sf_X12_seenBy hO0 hX0 _ (by show 0 ≤ a1.toInt ∧ a1.toInt ≤ 11; omega) _ _ (by omega) (fun w22 h24 hr23 hO24 hv24 => ?_))
        have hu24 := hv24
        obtain ⟨x25, rfl, t26⟩ := hr23
        show uRun _ (uCall Mt _) _ 32 (_, [(.inl x25)], _, _, _)
        refine ur_svIk [some (.inr (.inr (some 69))), some (.inl a1), some (.inl a2), some (.inl a3), some (.inl x25)] rfl rfl ?_
        refine ur_ldI rfl rfl ?_
        refine ur_push rfl ?_
        refine ur_if2 rfl (fun c27 => ?_) (fun c27 => ?_)
        · have t28 := le_to c27
          refine ur_ldI rfl rfl ?_
          obtain ⟨fs29, hc30⟩ := hO24.mod
          obtain ⟨f31, p32, t33⟩ := mf_4 hO24 hc30
          have t34 := fI_of hc30 p32
          have t35 := fI_keep (k := 4) hO0 hO24 hu24 rfl (by decide)
          exact ur_ret rfl rfl (hQ _ _ ⟨_, rfl⟩ hO24 hu24)
        · have t36 := le_no c27
          refine ur_push rfl ?_
          refine ur_go rfl ?_
          obtain ⟨fs37, hc38⟩ := hO24.mod
          obtain ⟨f39, p40, t41⟩ := mf_4 hO24 hc38
          have t42 := fI_of hc38 p40
          have t43 := fI_keep (k := 4) hO0 hO24 hu24 rfl (by decide)
          exact ur_ret rfl rfl (hQ _ _ ⟨_, rfl⟩ hO24 hu24)
      · have t44 := wi_noL c20 l_0 l_999999
        refine ur_push rfl ?_
        exact ur_ret rfl rfl (hQ _ _ ⟨_, rfl⟩ hO0 un.rf)

set_option maxRecDepth 20000 in
set_option maxHeartbeats 4000000 in
theorem sf_X12_findSpan {d kc ks : Nat} {h0 : aH} {Q : Option aV → aH → Prop} (hO0 : OK h0) (hX0 : SX h0) (a1 : Int32) (b1 : 0 ≤ a1.toInt ∧ a1.toInt ≤ 149) (a2 : Int32) (a3 : Int32) (b3 : -400 ≤ a3.toInt ∧ a3.toInt ≤ 400) (pre0 : a1.toInt < fI h0 38) (hQ : ∀ r h', (∃ q, r = some (.inl (bi q)) ∧ (q = true → 0 ≤ fI h' 50 ∧ fI h' 51 ≤ 999999 ∧ fI h' 50 ≤ fI h' 51)) → OK h' → un [] h0 h' → Q r h') : uCall Mt (d + 4) 244 [(.inr (.inr (some 69))), (.inl a1), (.inl a2), (.inl a3)] h0 kc ks Q := by
  have l_m2000000 : ((-2000000) : Int32).toInt = -2000000 := by decide
  have l_0 : ((0) : Int32).toInt = 0 := by decide
  have l_1 : ((1) : Int32).toInt = 1 := by decide
  have l_5 : ((5) : Int32).toInt = 5 := by decide
  have l_7 : ((7) : Int32).toInt = 7 := by decide
  have l_8 : ((8) : Int32).toInt = 8 := by decide
  have l_9 : ((9) : Int32).toInt = 9 := by decide
  have l_10 : ((10) : Int32).toInt = 10 := by decide
  have l_30 : ((30) : Int32).toInt = 30 := by decide
  have l_360 : ((360) : Int32).toInt = 360 := by decide
  have l_999999 : ((999999) : Int32).toInt = 999999 := by decide
  have l_2000000 : ((2000000) : Int32).toInt = 2000000 := by decide
  refine uc_ink [some (.inr (.inr (some 69))), some (.inl a1), some (.inl a2), some (.inl a3), none, none, none, none] mt_244 (Nat.le_of_ble_eq_true rfl) rfl ?_
  obtain ⟨fs1, hc2⟩ := hO0.mod
  obtain ⟨f3, p4, t5⟩ := mf_38 hO0 hc2
  have t6 := fI_of hc2 p4
  obtain ⟨f7, p8⟩ := mf_50 hO0 hc2
  have t9 := fI_of hc2 p8
  obtain ⟨f10, p11⟩ := mf_51 hO0 hc2
  have t12 := fI_of hc2 p11
  refine ur_ldA rfl rfl ?_
  refine ur_ldI rfl rfl ?_
  refine ur_inl rfl (rcv_of hc2) (Nat.le_of_ble_eq_true rfl) (Nat.le_of_ble_eq_true rfl) (sf_X12_rootOf hO0 hX0 _ (by show 0 ≤ a1.toInt ∧ a1.toInt ≤ 149; omega) (by omega) (fun w13 hr14 => ?_))
  obtain ⟨x15, rfl, t16⟩ := hr14
  show uRun _ (uCall Mt _) _ 5 (_, [(.inl x15)], _, _, _)
  refine ur_svIk [some (.inr (.inr (some 69))), some (.inl a1), some (.inl a2), some (.inl a3), some (.inl x15), none, none, none] rfl rfl ?_
  refine ur_push rfl ?_
  refine ur_ldA rfl rfl ?_
  refine ur_get rfl hc2 (mf_40 hO0 hc2) ?_
  refine ur_ldI rfl rfl ?_
  obtain ⟨xs18, hc17, hn19, he20⟩ := hO0.int (hO0.fix 97 (by decide) rfl)
  refine ur_aldV rfl hc17 hn19 (by omega) (fun x21 hx22 => ?_)
  have t23 : 0 ≤ x21.toInt ∧ x21.toInt ≤ 8 := he20 _ _ hx22
  refine ur_binV rfl (fun x24 e25 => ?_)
  have z26 := any_r x21
  have t27 := ti_add e25 (by omega) (by omega)
  refine ur_inl rfl rfl (Nat.le_of_ble_eq_true rfl) (Nat.le_of_ble_eq_true rfl) (sg_placeFor _ (by show 0 ≤ x24.toInt ∧ x24.toInt ≤ 18; omega) (fun w28 hr29 => ?_))
  obtain ⟨x30, rfl, t31⟩ := hr29
  show uRun _ (uCall Mt _) _ 20 (_, [(.inl x30)], _, _, _)
  refine ur_svIk [some (.inr (.inr (some 69))), some (.inl a1), some (.inl a2), some (.inl a3), some (.inl x15), some (.inl x30), none, none] rfl rfl ?_
  refine ur_push rfl ?_
  refine ur_ldA rfl rfl ?_
  refine ur_get rfl hc2 (mf_41 hO0 hc2) ?_
  refine ur_ldI rfl rfl ?_
  obtain ⟨xs33, hc32, hn34, he35⟩ := hO0.int (hO0.fix 98 (by decide) rfl)
  refine ur_aldV rfl hc32 hn34 (by omega) (fun x36 hx37 => ?_)
  refine ur_binV rfl (fun x38 e39 => ?_)
  have z40 := any_r x36
  refine ur_push rfl ?_
  refine ur_ldA rfl rfl ?_
  refine ur_get rfl hc2 (mf_42 hO0 hc2) ?_
  refine ur_ldI rfl rfl ?_
  obtain ⟨xs42, hc41, hn43, he44⟩ := hO0.int (hO0.fix 99 (by decide) rfl)
  refine ur_aldV rfl hc41 hn43 (by omega) (fun x45 hx46 => ?_)
  refine ur_binV rfl (fun x47 e48 => ?_)
  have z49 := any_r x45
  refine ur_binV rfl (fun x50 e51 => ?_)
  have z52 := any_r x38
  have z53 := any_r x47
  refine ur_ldA rfl rfl ?_
  refine ur_get rfl hc2 (mf_43 hO0 hc2) ?_
  refine ur_ldI rfl rfl ?_
  obtain ⟨xs55, hc54, hn56, he57⟩ := hO0.int (hO0.fix 100 (by decide) rfl)
  refine ur_aldV rfl hc54 hn56 (by omega) (fun x58 hx59 => ?_)
  refine ur_binV rfl (fun x60 e61 => ?_)
  have z62 := any_r x50
  have z63 := any_r x58
  refine ur_svIk [some (.inr (.inr (some 69))), some (.inl a1), some (.inl a2), some (.inl a3), some (.inl x15), some (.inl x30), some (.inl x60), none] rfl rfl ?_
  have J64 : ∀ (x65 : Int32) (u68 : Option aV) (h67 : aH), OK h67 → un [] h0 h67 → (-2147483648 ≤ x65.toInt ∧ x65.toInt ≤ 2147483647) → uRun oX12_findSpan (uCall Mt (d + 3)) Q 192 ([some (.inr (.inr (some 69))), some (.inl a1), some (.inl a2), some (.inl a3), some (.inl x15), some (.inl x30), some (.inl x65), u68], [], h67, kc, ks) := by
    intro x65 u68 h67 hO67 hu67 t66
    have z69 := any_r x65
    obtain ⟨fs72, hc73⟩ := hO67.mod
    obtain ⟨f74, p75, t76⟩ := mf_38 hO67 hc73
    have t77 := fI_of hc73 p75
    obtain ⟨f78, p79⟩ := mf_50 hO67 hc73
    have t80 := fI_of hc73 p79
    obtain ⟨f81, p82⟩ := mf_51 hO67 hc73
    have t83 := fI_of hc73 p82
    have t84 := fI_keep (k := 38) hO0 hO67 hu67 rfl (by decide)
    have J70 : ∀ (x71 : Int32), (-2000000 ≤ x71.toInt ∧ x71.toInt ≤ 2000000) → uRun oX12_findSpan (uCall Mt (d + 3)) Q 222 ([some (.inr (.inr (some 69))), some (.inl a1), some (.inl a2), some (.inl a3), some (.inl x15), some (.inl x30), some (.inl x65), u68], [(.inl x71)], h67, kc, ks) := by
      intro x71 t85
      refine ur_ldI rfl rfl ?_
      refine ur_binV rfl (fun x86 e87 => ?_)
      have z88 := any_r a3
      have t89 := ti_add e87 (by omega) (by omega)
      refine ur_svIk [some (.inr (.inr (some 69))), some (.inl a1), some (.inl a2), some (.inl a3), some (.inl x15), some (.inl x30), some (.inl x86), u68] rfl rfl ?_
      refine ur_ldA rfl rfl ?_
      have J90 : ∀ (x91 : Int32), (0 ≤ x91.toInt ∧ x91.toInt ≤ 2147483647) → uRun oX12_findSpan (uCall Mt (d + 3)) Q 254 ([some (.inr (.inr (some 69))), some (.inl a1), some (.inl a2), some (.inl a3), some (.inl x15), some (.inl x30), some (.inl x86), u68], [(.inl x91), (.inr (.inr (some 69)))], h67, kc, ks) := by
        intro x91 t92
        have z93 := any_r x91
        refine ur_putM (W := []) rfl hO67 hc73 (by decide) rfl (ms_50 (hO67.msh hc73)) (Or.inl rfl) (fun h95 hO95 hu95 d94 hc96 => ?_)
        have t97 := fI_of hc96 (gs_eq p79)
        have t98 := fI_of hc96 (gs_ne p82 (by decide))
        refine ur_ldA rfl rfl ?_
        have t101 := fI_of hc96 (gs_ne p75 (by decide))
        have t102 := fI_keep (k := 38) hO0 hO95 (hu67.tr hu95) rfl (by decide)
        have J99 : ∀ (x100 : Int32), (-2147483648 ≤ x100.toInt ∧ x100.toInt ≤ 999999) → uRun oX12_findSpan (uCall Mt (d + 3)) Q 288 ([some (.inr (.inr (some 69))), some (.inl a1), some (.inl a2), some (.inl a3), some (.inl x15), some (.inl x30), some (.inl x86), u68], [(.inl x100), (.inr (.inr (some 69)))], h95, kc, ks) := by
          intro x100 t103
          have z104 := any_r x100
          refine ur_putM (W := []) rfl hO95 hc96 (by decide) rfl (ms_51 (hO95.msh hc96)) (Or.inl rfl) (fun h106 hO106 hu106 d105 hc107 => ?_)
          have t108 := fI_of hc107 (gs_ne (gs_eq p79) (by decide))
          have t109 := fI_of hc107 (gs_eq (gs_ne p82 (by decide)))
          refine ur_ldA rfl rfl ?_
          refine ur_get rfl hc107 (gs_ne (gs_eq p79) (by decide)) ?_
          refine ur_ldA rfl rfl ?_
          refine ur_get rfl hc107 (gs_eq (gs_ne p82 (by decide))) ?_
          refine ur_if2 rfl (fun c110 => ?_) (fun c110 => ?_)
          · have t111 := lt_to c110
            refine ur_push rfl ?_
            have t112 := fI_of hc107 (gs_ne (gs_ne p75 (by decide)) (by decide))
            have t113 := fI_keep (k := 38) hO0 hO106 (hu67.tr (hu95.tr hu106)) rfl (by decide)
            exact ur_ret rfl rfl (hQ _ _ ⟨false, rfl, fun e => absurd e (by decide)⟩ hO106 (hu67.tr (hu95.tr hu106)))
          · have t114 := lt_no c110
            refine ur_push rfl ?_
            refine ur_go rfl ?_
            have t115 := fI_of hc107 (gs_ne (gs_ne p75 (by decide)) (by decide))
            have t116 := fI_keep (k := 38) hO0 hO106 (hu67.tr (hu95.tr hu106)) rfl (by decide)
            exact ur_ret rfl rfl (hQ _ _ ⟨true, rfl, fun _ => by omega⟩ hO106 (hu67.tr (hu95.tr hu106)))
        refine ur_ldI rfl rfl ?_
        refine ur_ldA rfl rfl ?_
        refine ur_get rfl hc96 (mf_45 hO95 hc96) ?_
        refine ur_ldI rfl rfl ?_
        obtain ⟨xs118, hc117, hn119, he120⟩ := hO95.int (hO95.fix 102 (by decide) rfl)
        refine ur_aldV rfl hc117 hn119 (by omega) (fun x121 hx122 => ?_)
        refine ur_binV rfl (fun x123 e124 => ?_)
        have z125 := any_r x86
        have z126 := any_r x121
        refine ur_push rfl ?_
        refine ur_if2 rfl (fun c127 => ?_) (fun c127 => ?_)
        · have t128 := le_to c127
          refine ur_ldI rfl rfl ?_
          refine ur_ldA rfl rfl ?_
          refine ur_get rfl hc96 (mf_45 hO95 hc96) ?_
          refine ur_ldI rfl rfl ?_
          refine ur_aldV rfl hc117 hn119 (by omega) (fun x129 hx130 => ?_)
          obtain rfl : x121 = x129 := Option.some.inj (hx122.symm.trans hx130)
          refine ur_binV rfl (fun x131 e132 => ?_)
          have t133 : x131.toInt = x123.toInt := congrArg Int32.toInt (e132.symm.trans e124)
          have z134 := any_r x131
          exact J99 x131 (by omega)
        · have t135 := le_no c127
          refine ur_push rfl ?_
          refine ur_go rfl ?_
          exact J99 999999 (by omega)
      refine ur_ldI rfl rfl ?_
      refine ur_ldA rfl rfl ?_
      refine ur_get rfl hc73 (mf_45 hO67 hc73) ?_
      refine ur_ldI rfl rfl ?_
      obtain ⟨xs137, hc136, hn138, he139⟩ := hO67.int (hO67.fix 102 (by decide) rfl)
      refine ur_aldV rfl hc136 hn138 (by omega) (fun x140 hx141 => ?_)
      refine ur_binV rfl (fun x142 e143 => ?_)
      have z144 := any_r x86
      have z145 := any_r x140
      refine ur_if1 rfl (fun c146 => ?_) (fun c146 => ?_)
      · have t147 := le_to c146
        refine ur_ldI rfl rfl ?_
        refine ur_ldA rfl rfl ?_
        refine ur_get rfl hc73 (mf_45 hO67 hc73) ?_
        refine ur_ldI rfl rfl ?_
        refine ur_aldV rfl hc136 hn138 (by omega) (fun x148 hx149 => ?_)
        obtain rfl : x140 = x148 := Option.some.inj (hx141.symm.trans hx149)
        refine ur_binV rfl (fun x150 e151 => ?_)
        have t152 : x150.toInt = x142.toInt := congrArg Int32.toInt (e151.symm.trans e143)
        have z153 := any_r x150
        exact J90 x150 (by omega)
      · have t154 := le_no c146
        refine ur_push rfl ?_
        refine ur_go rfl ?_
        exact J90 0 (by omega)
    refine ur_ldI rfl rfl ?_
    refine ur_push rfl ?_
    refine ur_if2 rfl (fun c155 => ?_) (fun c155 => ?_)
    · have t156 := le_to c155
      refine ur_ldI rfl rfl ?_
      refine ur_push rfl ?_
      refine ur_if2 rfl (fun c157 => ?_) (fun c157 => ?_)
      · have t158 := le_to c157
        refine ur_ldI rfl rfl ?_
        exact J70 x65 (by omega)
      · have t159 := le_no c157
        refine ur_push rfl ?_
        refine ur_go rfl ?_
        exact J70 2000000 (by omega)
    · have t160 := le_no c155
      refine ur_push rfl ?_
      refine ur_go rfl ?_
      exact J70 (-2000000) (by omega)
  refine ur_ldA rfl rfl ?_
  refine ur_get rfl hc2 (mf_26 hO0 hc2) ?_
  refine ur_ldI rfl rfl ?_
  obtain ⟨xs162, hc161, hn163, he164⟩ := hO0.int (hO0.fix 85 (by decide) rfl)
  refine ur_aldV rfl hc161 hn163 (by omega) (fun x165 hx166 => ?_)
  have t167 : 0 ≤ x165.toInt ∧ x165.toInt ≤ 61 := he164 _ _ hx166
  refine ur_if1 rfl (fun c168 => ?_) (fun c168 => ?_)
  · have t169 := le_to c168
    have z170 := any_r x60
    exact J64 x60 _ _ hO0 un.rf (by omega)
  · have t171 := le_no c168
    refine ur_push rfl ?_
    refine ur_svIk [some (.inr (.inr (some 69))), some (.inl a1), some (.inl a2), some (.inl a3), some (.inl x15), some (.inl x30), some (.inl x60), some (.inl 0)] rfl rfl ?_
    have L173 : ∀ (m174 : Nat) (x172 : Int32) (h176 : aH) , OK h176 → un [] h0 h176 → ((0 ≤ x172.toInt ∧ x172.toInt ≤ 10)) → ((11 - x172.toInt).toNat) < m174 → uRun oX12_findSpan (uCall Mt (d + 3)) Q 67 ([some (.inr (.inr (some 69))), some (.inl a1), some (.inl a2), some (.inl a3), some (.inl x15), some (.inl x30), some (.inl x60), some (.inl x172)], [], h176, kc, ks) := by
      intro m174
      induction m174 with
      | zero => intro x172 h176 hO176 hu176 iv177 mm178; omega
      | succ m174 ih175 =>
        intro x172 h176 hO176 hu176 iv177 mm178
        refine ur_ldI rfl rfl ?_
        refine ur_ldA rfl rfl ?_
        obtain ⟨fs179, hc180⟩ := hO176.mod
        refine ur_get rfl hc180 (mf_29 hO176 hc180) ?_
        obtain ⟨xs182, hc181, hn183, he184⟩ := hO176.int (hO176.fix 88 (by decide) rfl)
        refine ur_lenV (m := 10) rfl hc181 hn183 (by decide) (fun x185 t186 => ?_)
        have z187 := any_r x172
        have z188 := any_r x185
        refine ur_if2 rfl (fun c189 => ?_) (fun c189 => ?_)
        · have t190 := le_to c189
          refine ur_ldA rfl rfl ?_
          refine ur_get rfl hc180 (mf_29 hO176 hc180) ?_
          refine ur_push rfl ?_
          refine ur_ldA rfl rfl ?_
          refine ur_get rfl hc180 (mf_41 hO176 hc180) ?_
          refine ur_ldI rfl rfl ?_
          refine ur_aldV rfl (hu176.ka (n := 150) hc32 hn34 rfl (by decide) (wid_f (by decide)) (by decide)) hn34 (by omega) (fun x191 hx192 => ?_)
          obtain rfl : x36 = x191 := Option.some.inj (hx37.symm.trans hx192)
          refine ur_astV (W := []) (m := 10) rfl hO176 hc181 (by decide) hn183 (by omega) (any_r _) (Or.inl rfl) (fun h195 hO195 hu195 d193 hc194 => ?_)
          refine ur_ldA rfl rfl ?_
          refine ur_get rfl ((d193 _ (by decide)).trans hc180) (mf_29 hO195 ((d193 _ (by decide)).trans hc180)) ?_
          refine ur_push rfl ?_
          refine ur_ldA rfl rfl ?_
          refine ur_get rfl ((d193 _ (by decide)).trans hc180) (mf_42 hO195 ((d193 _ (by decide)).trans hc180)) ?_
          refine ur_ldI rfl rfl ?_
          refine ur_aldV rfl ((d193 _ (by decide)).trans (hu176.ka (n := 150) hc41 hn43 rfl (by decide) (wid_f (by decide)) (by decide))) hn43 (by omega) (fun x196 hx197 => ?_)
          obtain rfl : x45 = x196 := Option.some.inj (hx46.symm.trans hx197)
          obtain ⟨xs199, hc198, hn200, he201⟩ := hO195.int (hO195.fix 88 (by decide) rfl)
          refine ur_astV (W := []) (m := 10) rfl hO195 hc198 (by decide) hn200 (by omega) (any_r _) (Or.inl rfl) (fun h204 hO204 hu204 d202 hc203 => ?_)
          refine ur_ldA rfl rfl ?_
          have hc205 := ((d202 _ (by decide)).trans ((d193 _ (by decide)).trans hc180))
          refine ur_get rfl hc205 (mf_29 hO204 hc205) ?_
          refine ur_push rfl ?_
          refine ur_ldA rfl rfl ?_
          refine ur_get rfl hc205 (mf_43 hO204 hc205) ?_
          refine ur_ldI rfl rfl ?_
          refine ur_aldV rfl ((d202 _ (by decide)).trans ((d193 _ (by decide)).trans (hu176.ka (n := 150) hc54 hn56 rfl (by decide) (wid_f (by decide)) (by decide)))) hn56 (by omega) (fun x206 hx207 => ?_)
          obtain rfl : x58 = x206 := Option.some.inj (hx59.symm.trans hx207)
          obtain ⟨xs209, hc208, hn210, he211⟩ := hO204.int (hO204.fix 88 (by decide) rfl)
          refine ur_astV (W := []) (m := 10) rfl hO204 hc208 (by decide) hn210 (by omega) (any_r _) (Or.inl rfl) (fun h214 hO214 hu214 d212 hc213 => ?_)
          refine ur_ldA rfl rfl ?_
          refine ur_get rfl ((d212 _ (by decide)).trans hc205) (mf_29 hO214 ((d212 _ (by decide)).trans hc205)) ?_
          refine ur_push rfl ?_
          refine ur_ldA rfl rfl ?_
          refine ur_get rfl ((d212 _ (by decide)).trans hc205) (mf_44 hO214 ((d212 _ (by decide)).trans hc205)) ?_
          refine ur_ldI rfl rfl ?_
          obtain ⟨xs216, hc215, hn217, he218⟩ := hO214.int (hO214.fix 101 (by decide) rfl)
          refine ur_aldV rfl hc215 hn217 (by omega) (fun x219 hx220 => ?_)
          have t221 : -1 ≤ x219.toInt ∧ x219.toInt ≤ 19 := he218 _ _ hx220
          refine ur_if1 rfl (fun c222 => ?_) (fun c222 => ?_)
          · have t223 := le_to c222
            refine ur_ldI rfl rfl ?_
            refine ur_if1 rfl (fun c224 => ?_) (fun c224 => ?_)
            · have t225 := ne_to c224
              refine ur_ldA rfl rfl ?_
              refine ur_get rfl ((d212 _ (by decide)).trans hc205) (mf_33 hO214 ((d212 _ (by decide)).trans hc205)) ?_
              refine ur_ldA rfl rfl ?_
              refine ur_get rfl ((d212 _ (by decide)).trans hc205) (mf_44 hO214 ((d212 _ (by decide)).trans hc205)) ?_
              refine ur_ldI rfl rfl ?_
              refine ur_aldV rfl hc215 hn217 (by omega) (fun x226 hx227 => ?_)
              obtain rfl : x219 = x226 := Option.some.inj (hx220.symm.trans hx227)
              obtain ⟨xs229, hc228, hn230, he231⟩ := hO214.int (hO214.fix 92 (by decide) rfl)
              refine ur_aldV rfl hc228 hn230 (by omega) (fun x232 hx233 => ?_)
              obtain ⟨xs235, hc234, hn236, he237⟩ := hO214.int (hO214.fix 88 (by decide) rfl)
              refine ur_astV (W := []) (m := 10) rfl hO214 hc234 (by decide) hn236 (by omega) (any_r _) (Or.inl rfl) (fun h240 hO240 hu240 d238 hc239 => ?_)
              refine ur_ldA rfl rfl ?_
              refine ur_ldI rfl rfl ?_
              have hc241 := ((d238 _ (by decide)).trans ((d212 _ (by decide)).trans hc205))
              have t242 := fI_keep (k := 38) hO0 hO240 (hu176.tr (hu195.tr (hu204.tr (hu214.tr hu240)))) rfl (by decide)
              refine ur_inl rfl (rcv_of hc241) (Nat.le_of_ble_eq_true rfl) (Nat.le_of_ble_eq_true rfl) (sf_X12_gives hO240 (hX0.un hO0 hO240 (hu176.tr (hu195.tr (hu204.tr (hu214.tr hu240)))) (by decide)) _ (by show 0 ≤ x30.toInt ∧ x30.toInt ≤ 10; omega) (fun w243 h245 hr244 hO245 hv245 => ?_))
              have hu245 := hv245
              obtain ⟨x246, rfl⟩ := hr244
              show uRun _ (uCall Mt _) _ 190 (_, [(.inl x246)], _, _, _)
              refine ur_svIk [some (.inr (.inr (some 69))), some (.inl a1), some (.inl a2), some (.inl a3), some (.inl x15), some (.inl x30), some (.inl x246), some (.inl x172)] rfl rfl ?_
              have z247 := any_r x246
              exact J64 x246 _ _ hO245 (hu176.tr (hu195.tr (hu204.tr (hu214.tr (hu240.tr hu245))))) (by omega)
            · have t248 := ne_no c224
              refine ur_ldA rfl rfl ?_
              refine ur_get rfl ((d212 _ (by decide)).trans hc205) (mf_31 hO214 ((d212 _ (by decide)).trans hc205)) ?_
              refine ur_ldA rfl rfl ?_
              refine ur_get rfl ((d212 _ (by decide)).trans hc205) (mf_44 hO214 ((d212 _ (by decide)).trans hc205)) ?_
              refine ur_ldI rfl rfl ?_
              refine ur_aldV rfl hc215 hn217 (by omega) (fun x249 hx250 => ?_)
              obtain rfl : x219 = x249 := Option.some.inj (hx220.symm.trans hx250)
              obtain ⟨xs252, hc251, hn253, he254⟩ := hO214.int (hO214.fix 90 (by decide) rfl)
              refine ur_aldV rfl hc251 hn253 (by omega) (fun x255 hx256 => ?_)
              refine ur_go rfl ?_
              obtain ⟨xs258, hc257, hn259, he260⟩ := hO214.int (hO214.fix 88 (by decide) rfl)
              refine ur_astV (W := []) (m := 10) rfl hO214 hc257 (by decide) hn259 (by omega) (any_r _) (Or.inl rfl) (fun h263 hO263 hu263 d261 hc262 => ?_)
              refine ur_ldA rfl rfl ?_
              refine ur_ldI rfl rfl ?_
              have hc264 := ((d261 _ (by decide)).trans ((d212 _ (by decide)).trans hc205))
              have t265 := fI_keep (k := 38) hO0 hO263 (hu176.tr (hu195.tr (hu204.tr (hu214.tr hu263)))) rfl (by decide)
              refine ur_inl rfl (rcv_of hc264) (Nat.le_of_ble_eq_true rfl) (Nat.le_of_ble_eq_true rfl) (sf_X12_gives hO263 (hX0.un hO0 hO263 (hu176.tr (hu195.tr (hu204.tr (hu214.tr hu263)))) (by decide)) _ (by show 0 ≤ x30.toInt ∧ x30.toInt ≤ 10; omega) (fun w266 h268 hr267 hO268 hv268 => ?_))
              have hu268 := hv268
              obtain ⟨x269, rfl⟩ := hr267
              show uRun _ (uCall Mt _) _ 190 (_, [(.inl x269)], _, _, _)
              refine ur_svIk [some (.inr (.inr (some 69))), some (.inl a1), some (.inl a2), some (.inl a3), some (.inl x15), some (.inl x30), some (.inl x269), some (.inl x172)] rfl rfl ?_
              have z270 := any_r x269
              exact J64 x269 _ _ hO268 (hu176.tr (hu195.tr (hu204.tr (hu214.tr (hu263.tr hu268))))) (by omega)
          · have t271 := le_no c222
            refine ur_push rfl ?_
            refine ur_go rfl ?_
            obtain ⟨xs273, hc272, hn274, he275⟩ := hO214.int (hO214.fix 88 (by decide) rfl)
            refine ur_astV (W := []) (m := 10) rfl hO214 hc272 (by decide) hn274 (by omega) (any_r _) (Or.inl rfl) (fun h278 hO278 hu278 d276 hc277 => ?_)
            refine ur_ldA rfl rfl ?_
            refine ur_ldI rfl rfl ?_
            have hc279 := ((d276 _ (by decide)).trans ((d212 _ (by decide)).trans hc205))
            have t280 := fI_keep (k := 38) hO0 hO278 (hu176.tr (hu195.tr (hu204.tr (hu214.tr hu278)))) rfl (by decide)
            refine ur_inl rfl (rcv_of hc279) (Nat.le_of_ble_eq_true rfl) (Nat.le_of_ble_eq_true rfl) (sf_X12_gives hO278 (hX0.un hO0 hO278 (hu176.tr (hu195.tr (hu204.tr (hu214.tr hu278)))) (by decide)) _ (by show 0 ≤ x30.toInt ∧ x30.toInt ≤ 10; omega) (fun w281 h283 hr282 hO283 hv283 => ?_))
            have hu283 := hv283
            obtain ⟨x284, rfl⟩ := hr282
            show uRun _ (uCall Mt _) _ 190 (_, [(.inl x284)], _, _, _)
            refine ur_svIk [some (.inr (.inr (some 69))), some (.inl a1), some (.inl a2), some (.inl a3), some (.inl x15), some (.inl x30), some (.inl x284), some (.inl x172)] rfl rfl ?_
            have z285 := any_r x284
            exact J64 x284 _ _ hO283 (hu176.tr (hu195.tr (hu204.tr (hu214.tr (hu278.tr hu283))))) (by omega)
        · have t286 := le_no c189
          refine ur_ldA rfl rfl ?_
          refine ur_get rfl hc180 (mf_29 hO176 hc180) ?_
          refine ur_ldI rfl rfl ?_
          refine ur_push rfl ?_
          refine ur_astV (W := []) (m := 10) rfl hO176 hc181 (by decide) hn183 (by omega) (any_r _) (Or.inl rfl) (fun h289 hO289 hu289 d287 hc288 => ?_)
          refine ur_incV (fun z => [some (.inr (.inr (some 69))), some (.inl a1), some (.inl a2), some (.inl a3), some (.inl x15), some (.inl x30), some (.inl x60), some (.inl z)]) rfl rfl (fun _ => rfl) (fun x290 e291 => ?_)
          have t292 := ti_add e291 (by omega) (by omega)
          refine ur_go rfl ?_
          obtain ⟨f293, p294, t295⟩ := mf_38 hO289 ((d287 _ (by decide)).trans hc180)
          have t296 := fI_of ((d287 _ (by decide)).trans hc180) p294
          obtain ⟨f297, p298⟩ := mf_50 hO289 ((d287 _ (by decide)).trans hc180)
          have t299 := fI_of ((d287 _ (by decide)).trans hc180) p298
          obtain ⟨f300, p301⟩ := mf_51 hO289 ((d287 _ (by decide)).trans hc180)
          have t302 := fI_of ((d287 _ (by decide)).trans hc180) p301
          have z303 := any_r x290
          exact ih175 x290 _ hO289 (hu176.tr hu289) (by omega) (by omega)
    exact L173 _ 0 _ hO0 un.rf (by omega) (Nat.lt_succ_self _)

set_option maxRecDepth 20000 in
set_option maxHeartbeats 4000000 in
theorem sf_X12_span {d kc ks : Nat} {h0 : aH} {Q : Option aV → aH → Prop} (hO0 : OK h0) (hX0 : SX h0) (a1 : Int32) (a2 : Int32) (a3 : Int32) (hQ : ∀ r h', (∃ x, r = some (.inl x)) → OK h' → un [] h0 h' → Q r h') : uCall Mt (d + 5) 245 [(.inr (.inr (some 69))), (.inl a1), (.inl a2), (.inl a3)] h0 kc ks Q := by
  have l_m2000000000 : ((-2000000000) : Int32).toInt = -2000000000 := by decide
  have l_0 : ((0) : Int32).toInt = 0 := by decide
  have l_1 : ((1) : Int32).toInt = 1 := by decide
  refine uc_ink [some (.inr (.inr (some 69))), some (.inl a1), some (.inl a2), some (.inl a3)] mt_245 (Nat.le_of_ble_eq_true rfl) rfl ?_
  obtain ⟨fs1, hc2⟩ := hO0.mod
  obtain ⟨f3, p4, t5⟩ := mf_38 hO0 hc2
  have t6 := fI_of hc2 p4
  refine ur_ldA rfl rfl ?_
  refine ur_ldI rfl rfl ?_
  refine ur_inl rfl (rcv_of hc2) (Nat.le_of_ble_eq_true rfl) (Nat.le_of_ble_eq_true rfl) (sg_isWord hO0 _ (fun w7 hr8 => ?_))
  obtain ⟨b9, rfl, t10⟩ := hr8
  show uRun _ (uCall Mt _) _ 5 (_, [(.inl (bi b9))], _, _, _)
  refine ur_eqB rfl (fun c11 => ?_) (fun c11 => ?_)
  · refine ur_push rfl ?_
    exact ur_ret rfl rfl (hQ _ _ ⟨_, rfl⟩ hO0 un.rf)
  · have t12 := t10 c11
    refine ur_ldI rfl rfl ?_
    refine ur_push rfl ?_
    refine ur_ldA rfl rfl ?_
    refine ur_ldI rfl rfl ?_
    refine ur_inl rfl (rcv_of hc2) (Nat.le_of_ble_eq_true rfl) (Nat.le_of_ble_eq_true rfl) (sf_X12_spansOf hO0 hX0 _ (by show 0 ≤ a1.toInt ∧ a1.toInt ≤ 149; omega) (by omega) (fun w13 hr14 => ?_))
    obtain ⟨x15, rfl⟩ := hr14
    show uRun _ (uCall Mt _) _ 15 (_, [(.inl x15), (.inl 0), (.inl a2)], _, _, _)
    refine ur_push rfl ?_
    refine ur_binV rfl (fun x16 e17 => ?_)
    have z18 := any_r x15
    refine ur_callv rfl rfl (Nat.le_of_ble_eq_true rfl) (Nat.le_of_ble_eq_true rfl) rfl (sp_in _ _ _ _ _) ?_
    refine ur_eqB rfl (fun c21 => ?_) (fun c21 => ?_)
    · have t22 := wi_no c21
      refine ur_push rfl ?_
      exact ur_ret rfl rfl (hQ _ _ ⟨_, rfl⟩ hO0 un.rf)
    · have t23 := wi_to c21
      refine ur_ldI rfl rfl ?_
      refine ur_push rfl ?_
      refine ur_push rfl ?_
      refine ur_callv rfl rfl (Nat.le_of_ble_eq_true rfl) (Nat.le_of_ble_eq_true rfl) rfl (sp_in _ _ _ _ _) ?_
      refine ur_eqB rfl (fun c26 => ?_) (fun c26 => ?_)
      · have t27 := wi_noL c26 l_0 l_1
        refine ur_push rfl ?_
        exact ur_ret rfl rfl (hQ _ _ ⟨_, rfl⟩ hO0 un.rf)
      · have t28 := wi_toL c26 l_0 l_1
        refine ur_ldA rfl rfl ?_
        refine ur_ldI rfl rfl ?_
        refine ur_ldI rfl rfl ?_
        refine ur_push rfl ?_
        obtain ⟨f29, p30⟩ := mf_50 hO0 hc2
        have t31 := fI_of hc2 p30
        obtain ⟨f32, p33⟩ := mf_51 hO0 hc2
        have t34 := fI_of hc2 p33
        refine ur_inl rfl (rcv_of hc2) (Nat.le_of_ble_eq_true rfl) (Nat.le_of_ble_eq_true rfl) (sf_X12_findSpan hO0 hX0 _ (by show 0 ≤ a1.toInt ∧ a1.toInt ≤ 149; omega) _ _ (by show -400 ≤ (0 : Int32).toInt ∧ (0 : Int32).toInt ≤ 400; omega) (by omega) (fun w35 h37 hr36 hO37 hv37 => ?_))
        have hu37 := hv37
        obtain ⟨b38, rfl, t39⟩ := hr36
        show uRun _ (uCall Mt _) _ 39 (_, [(.inl (bi b38))], _, _, _)
        refine ur_neB rfl (fun c40 => ?_) (fun c40 => ?_)
        · have t41 := t39 c40
          refine ur_ldI rfl rfl ?_
          refine ur_if1 rfl (fun c42 => ?_) (fun c42 => ?_)
          · have t43 := ne_to c42
            refine ur_ldA rfl rfl ?_
            obtain ⟨fs44, hc45⟩ := hO37.mod
            obtain ⟨f46, p47⟩ := mf_51 hO37 hc45
            refine ur_get rfl hc45 p47 ?_
            obtain ⟨f48, p49, t50⟩ := mf_38 hO37 hc45
            have t51 := fI_of hc45 p49
            have t52 := fI_keep (k := 38) hO0 hO37 hu37 rfl (by decide)
            exact ur_ret rfl rfl (hQ _ _ ⟨_, rfl⟩ hO37 hu37)
          · have t53 := ne_no c42
            refine ur_ldA rfl rfl ?_
            obtain ⟨fs54, hc55⟩ := hO37.mod
            obtain ⟨f56, p57⟩ := mf_50 hO37 hc55
            refine ur_get rfl hc55 p57 ?_
            refine ur_go rfl ?_
            obtain ⟨f58, p59, t60⟩ := mf_38 hO37 hc55
            have t61 := fI_of hc55 p59
            have t62 := fI_keep (k := 38) hO0 hO37 hu37 rfl (by decide)
            exact ur_ret rfl rfl (hQ _ _ ⟨_, rfl⟩ hO37 hu37)
        · refine ur_push rfl ?_
          obtain ⟨fs63, hc64⟩ := hO37.mod
          obtain ⟨f65, p66, t67⟩ := mf_38 hO37 hc64
          have t68 := fI_of hc64 p66
          have t69 := fI_keep (k := 38) hO0 hO37 hu37 rfl (by decide)
          exact ur_ret rfl rfl (hQ _ _ ⟨_, rfl⟩ hO37 hu37)

set_option maxRecDepth 20000 in
set_option maxHeartbeats 4000000 in
theorem sf_X12_fitsOn {d kc ks : Nat} {h0 : aH} {Q : Option aV → aH → Prop} (hO0 : OK h0) (hX0 : SX h0) (a1 : Int32) (b1 : 0 ≤ a1.toInt ∧ a1.toInt ≤ 149) (a2 : Int32) (b2 : 0 ≤ a2.toInt ∧ a2.toInt ≤ 11) (a3 : Int32) (b3 : -20000 ≤ a3.toInt ∧ a3.toInt ≤ 1020000) (a4 : Int32) (pre0 : a1.toInt < fI h0 38) (pre1 : a2.toInt < fI h0 4) (hQ : ∀ r h', (∃ q, r = some (.inl (bi q))) → OK h' → un [] h0 h' → Q r h') : uCall Mt (d + 6) 248 [(.inr (.inr (some 69))), (.inl a1), (.inl a2), (.inl a3), (.inl a4)] h0 kc ks Q := by
  have l_0 : ((0) : Int32).toInt = 0 := by decide
  have l_1 : ((1) : Int32).toInt = 1 := by decide
  have l_7 : ((7) : Int32).toInt = 7 := by decide
  have l_10 : ((10) : Int32).toInt = 10 := by decide
  have l_15 : ((15) : Int32).toInt = 15 := by decide
  refine uc_ink [some (.inr (.inr (some 69))), some (.inl a1), some (.inl a2), some (.inl a3), some (.inl a4)] mt_248 (Nat.le_of_ble_eq_true rfl) rfl ?_
  obtain ⟨fs1, hc2⟩ := hO0.mod
  obtain ⟨f3, p4, t5⟩ := mf_4 hO0 hc2
  have t6 := fI_of hc2 p4
  obtain ⟨f7, p8, t9⟩ := mf_38 hO0 hc2
  have t10 := fI_of hc2 p8
  refine ur_ldA rfl rfl ?_
  refine ur_ldI rfl rfl ?_
  refine ur_ldI rfl rfl ?_
  refine ur_ldA rfl rfl ?_
  refine ur_get rfl hc2 (mf_40 hO0 hc2) ?_
  refine ur_ldI rfl rfl ?_
  obtain ⟨xs12, hc11, hn13, he14⟩ := hO0.int (hO0.fix 97 (by decide) rfl)
  refine ur_aldV rfl hc11 hn13 (by omega) (fun x15 hx16 => ?_)
  have t17 : 0 ≤ x15.toInt ∧ x15.toInt ≤ 8 := he14 _ _ hx16
  refine ur_ldI rfl rfl ?_
  refine ur_inl rfl (rcv_of hc2) (Nat.le_of_ble_eq_true rfl) (Nat.le_of_ble_eq_true rfl) (sf_X12_canSee hO0 hX0 _ (by show 0 ≤ a2.toInt ∧ a2.toInt ≤ 11; omega) _ _ _ (by omega) (fun w18 h20 hr19 hO20 hv20 => ?_))
  have hu20 := hv20
  obtain ⟨b21, rfl⟩ := hr19
  show uRun _ (uCall Mt _) _ 14 (_, [(.inl (bi b21))], _, _, _)
  refine ur_neB rfl (fun c22 => ?_) (fun c22 => ?_)
  · refine ur_ldA rfl rfl ?_
    obtain ⟨fs23, hc24⟩ := hO20.mod
    refine ur_get rfl hc24 (mf_39 hO20 hc24) ?_
    refine ur_ldI rfl rfl ?_
    obtain ⟨xs26, hc25, hn27, he28⟩ := hO20.int (hO20.fix 96 (by decide) rfl)
    refine ur_aldV rfl hc25 hn27 (by omega) (fun x29 hx30 => ?_)
    have t31 : 0 ≤ x29.toInt ∧ x29.toInt ≤ 7 := he28 _ _ hx30
    rcases (show (x29.toInt < 1 ∨ 7 < x29.toInt) ∨ x29.toInt = 1 ∨ x29.toInt = 2 ∨ x29.toInt = 3 ∨ x29.toInt = 4 ∨ x29.toInt = 5 ∨ x29.toInt = 6 ∨ x29.toInt = 7 by omega) with t32 | t32 | t32 | t32 | t32 | t32 | t32 | t32
    · refine ur_tabO rfl (by show x29.toInt < 1 ∨ 1 + 7 ≤ x29.toInt; omega) ?_
      refine ur_push rfl ?_
      obtain ⟨f33, p34, t35⟩ := mf_4 hO20 hc24
      have t36 := fI_of hc24 p34
      obtain ⟨f37, p38, t39⟩ := mf_38 hO20 hc24
      have t40 := fI_of hc24 p38
      have t41 := fI_keep (k := 4) hO0 hO20 hu20 rfl (by decide)
      have t42 := fI_keep (k := 38) hO0 hO20 hu20 rfl (by decide)
      exact ur_ret rfl rfl (hQ _ _ ⟨true, rfl⟩ hO20 hu20)
    · refine ur_tabI rfl (by omega) (by rw [t32]; rfl) ?_
      refine ur_ldA rfl rfl ?_
      refine ur_get rfl hc24 (mf_46 hO20 hc24) ?_
      refine ur_ldI rfl rfl ?_
      obtain ⟨xs44, hc43, hn45, he46⟩ := hO20.int (hO20.fix 103 (by decide) rfl)
      refine ur_aldV rfl hc43 hn45 (by omega) (fun x47 hx48 => ?_)
      have t49 : -1 ≤ x47.toInt ∧ x47.toInt ≤ 149 := he46 _ _ hx48
      refine ur_ldA rfl rfl ?_
      obtain ⟨f50, p51⟩ := mf_15 hO20 hc24
      refine ur_get rfl hc24 p51 ?_
      have t52 := fI_keep (k := 4) hO0 hO20 hu20 rfl (by decide)
      have t53 := fI_keep (k := 38) hO0 hO20 hu20 rfl (by decide)
      refine ur_inl rfl rfl (Nat.le_of_ble_eq_true rfl) (Nat.le_of_ble_eq_true rfl) (sf_X12_lodgeApart _ (by show -1 ≤ x47.toInt ∧ x47.toInt ≤ 149; omega) _ (fun w54 hr55 => ?_))
      obtain ⟨x56, rfl⟩ := hr55
      show uRun _ (uCall Mt _) _ 81 (_, [(.inl x56)], _, _, _)
      refine ur_push rfl ?_
      refine ur_if2 rfl (fun c57 => ?_) (fun c57 => ?_)
      · have t58 := lt_to c57
        refine ur_push rfl ?_
        obtain ⟨f59, p60, t61⟩ := mf_4 hO20 hc24
        have t62 := fI_of hc24 p60
        obtain ⟨f63, p64, t65⟩ := mf_38 hO20 hc24
        have t66 := fI_of hc24 p64
        exact ur_ret rfl rfl (hQ _ _ ⟨false, rfl⟩ hO20 hu20)
      · have t67 := lt_no c57
        refine ur_push rfl ?_
        refine ur_go rfl ?_
        obtain ⟨f68, p69, t70⟩ := mf_4 hO20 hc24
        have t71 := fI_of hc24 p69
        obtain ⟨f72, p73, t74⟩ := mf_38 hO20 hc24
        have t75 := fI_of hc24 p73
        exact ur_ret rfl rfl (hQ _ _ ⟨true, rfl⟩ hO20 hu20)
    · refine ur_tabI rfl (by omega) (by rw [t32]; rfl) ?_
      refine ur_ldA rfl rfl ?_
      refine ur_ldI rfl rfl ?_
      have t76 := fI_keep (k := 4) hO0 hO20 hu20 rfl (by decide)
      have t77 := fI_keep (k := 38) hO0 hO20 hu20 rfl (by decide)
      refine ur_inl rfl (rcv_of hc24) (Nat.le_of_ble_eq_true rfl) (Nat.le_of_ble_eq_true rfl) (sf_X12_isWest hO20 _ (fun w78 hr79 => ?_))
      obtain ⟨b80, rfl⟩ := hr79
      show uRun _ (uCall Mt _) _ 120 (_, [(.inl (bi b80))], _, _, _)
      refine ur_ldA rfl rfl ?_
      refine ur_get rfl hc24 (mf_46 hO20 hc24) ?_
      refine ur_ldI rfl rfl ?_
      obtain ⟨xs82, hc81, hn83, he84⟩ := hO20.int (hO20.fix 103 (by decide) rfl)
      refine ur_aldV rfl hc81 hn83 (by omega) (fun x85 hx86 => ?_)
      have t87 : -1 ≤ x85.toInt ∧ x85.toInt ≤ 149 := he84 _ _ hx86
      refine ur_push rfl ?_
      refine ur_if2 rfl (fun c88 => ?_) (fun c88 => ?_)
      · have t89 := ne_to c88
        refine ur_push rfl ?_
        refine ur_if2 rfl (fun c90 => ?_) (fun c90 => ?_)
        · have t91 := ne_to c90
          refine ur_push rfl ?_
          obtain ⟨f92, p93, t94⟩ := mf_4 hO20 hc24
          have t95 := fI_of hc24 p93
          obtain ⟨f96, p97, t98⟩ := mf_38 hO20 hc24
          have t99 := fI_of hc24 p97
          exact ur_ret rfl rfl (hQ _ _ ⟨false, rfl⟩ hO20 hu20)
        · have t100 := ne_no c90
          refine ur_push rfl ?_
          refine ur_go rfl ?_
          obtain ⟨f101, p102, t103⟩ := mf_4 hO20 hc24
          have t104 := fI_of hc24 p102
          obtain ⟨f105, p106, t107⟩ := mf_38 hO20 hc24
          have t108 := fI_of hc24 p106
          exact ur_ret rfl rfl (hQ _ _ ⟨true, rfl⟩ hO20 hu20)
      · have t109 := ne_no c88
        refine ur_push rfl ?_
        refine ur_go rfl ?_
        refine ur_if2 rfl (fun c110 => ?_) (fun c110 => ?_)
        · have t111 := ne_to c110
          refine ur_push rfl ?_
          obtain ⟨f112, p113, t114⟩ := mf_4 hO20 hc24
          have t115 := fI_of hc24 p113
          obtain ⟨f116, p117, t118⟩ := mf_38 hO20 hc24
          have t119 := fI_of hc24 p117
          exact ur_ret rfl rfl (hQ _ _ ⟨false, rfl⟩ hO20 hu20)
        · have t120 := ne_no c110
          refine ur_push rfl ?_
          refine ur_go rfl ?_
          obtain ⟨f121, p122, t123⟩ := mf_4 hO20 hc24
          have t124 := fI_of hc24 p122
          obtain ⟨f125, p126, t127⟩ := mf_38 hO20 hc24
          have t128 := fI_of hc24 p126
          exact ur_ret rfl rfl (hQ _ _ ⟨true, rfl⟩ hO20 hu20)
    · refine ur_tabI rfl (by omega) (by rw [t32]; rfl) ?_
      refine ur_push rfl ?_
      obtain ⟨f129, p130, t131⟩ := mf_4 hO20 hc24
      have t132 := fI_of hc24 p130
      obtain ⟨f133, p134, t135⟩ := mf_38 hO20 hc24
      have t136 := fI_of hc24 p134
      have t137 := fI_keep (k := 4) hO0 hO20 hu20 rfl (by decide)
      have t138 := fI_keep (k := 38) hO0 hO20 hu20 rfl (by decide)
      exact ur_ret rfl rfl (hQ _ _ ⟨true, rfl⟩ hO20 hu20)
    · refine ur_tabI rfl (by omega) (by rw [t32]; rfl) ?_
      refine ur_ldI rfl rfl ?_
      refine ur_ldI rfl rfl ?_
      refine ur_binV rfl (fun x139 e140 => ?_)
      have z141 := any_r a4
      have z142 := any_r a3
      have t143 := fI_keep (k := 4) hO0 hO20 hu20 rfl (by decide)
      have t144 := fI_keep (k := 38) hO0 hO20 hu20 rfl (by decide)
      refine ur_inl rfl rfl (Nat.le_of_ble_eq_true rfl) (Nat.le_of_ble_eq_true rfl) (sf_X12_sizeOf _ (fun w145 hr146 => ?_))
      obtain ⟨x147, rfl, t148⟩ := hr146
      show uRun _ (uCall Mt _) _ 151 (_, [(.inl x147)], _, _, _)
      refine ur_push rfl ?_
      refine ur_if2 rfl (fun c149 => ?_) (fun c149 => ?_)
      · have t150 := lt_to c149
        refine ur_push rfl ?_
        obtain ⟨f151, p152, t153⟩ := mf_4 hO20 hc24
        have t154 := fI_of hc24 p152
        obtain ⟨f155, p156, t157⟩ := mf_38 hO20 hc24
        have t158 := fI_of hc24 p156
        exact ur_ret rfl rfl (hQ _ _ ⟨false, rfl⟩ hO20 hu20)
      · have t159 := lt_no c149
        refine ur_push rfl ?_
        refine ur_go rfl ?_
        obtain ⟨f160, p161, t162⟩ := mf_4 hO20 hc24
        have t163 := fI_of hc24 p161
        obtain ⟨f164, p165, t166⟩ := mf_38 hO20 hc24
        have t167 := fI_of hc24 p165
        exact ur_ret rfl rfl (hQ _ _ ⟨true, rfl⟩ hO20 hu20)
    · refine ur_tabI rfl (by omega) (by rw [t32]; rfl) ?_
      refine ur_ldA rfl rfl ?_
      refine ur_ldI rfl rfl ?_
      refine ur_ldA rfl rfl ?_
      refine ur_get rfl hc24 (mf_40 hO20 hc24) ?_
      refine ur_ldI rfl rfl ?_
      refine ur_aldV rfl (hv20.ka (n := 150) hc11 hn13 rfl (by decide) (wid_f (by decide)) (by decide)) hn13 (by omega) (fun x168 hx169 => ?_)
      obtain rfl : x15 = x168 := Option.some.inj (hx16.symm.trans hx169)
      refine ur_ldI rfl rfl ?_
      have t170 := fI_keep (k := 4) hO0 hO20 hu20 rfl (by decide)
      have t171 := fI_keep (k := 38) hO0 hO20 hu20 rfl (by decide)
      refine ur_inl rfl (rcv_of hc24) (Nat.le_of_ble_eq_true rfl) (Nat.le_of_ble_eq_true rfl) (sf_X12_tailNow hO20 (hX0.un hO0 hO20 hu20 (by decide)) _ (by show 0 ≤ a2.toInt ∧ a2.toInt ≤ 11; omega) _ _ (fun w172 h174 hr173 hO174 hv174 => ?_))
      have hu174 := hv174
      obtain ⟨x175, rfl, t176⟩ := hr173
      show uRun _ (uCall Mt _) _ 175 (_, [(.inl x175)], _, _, _)
      refine ur_if1 rfl (fun c177 => ?_) (fun c177 => ?_)
      · have t178 := ne_to c177
        refine ur_push rfl ?_
        obtain ⟨fs179, hc180⟩ := hO174.mod
        obtain ⟨f181, p182, t183⟩ := mf_4 hO174 hc180
        have t184 := fI_of hc180 p182
        obtain ⟨f185, p186, t187⟩ := mf_38 hO174 hc180
        have t188 := fI_of hc180 p186
        have t189 := fI_keep (k := 4) hO0 hO174 (hu20.tr hu174) rfl (by decide)
        have t190 := fI_keep (k := 38) hO0 hO174 (hu20.tr hu174) rfl (by decide)
        exact ur_ret rfl rfl (hQ _ _ ⟨false, rfl⟩ hO174 (hu20.tr hu174))
      · have t191 := ne_no c177
        refine ur_push rfl ?_
        refine ur_go rfl ?_
        obtain ⟨fs192, hc193⟩ := hO174.mod
        obtain ⟨f194, p195, t196⟩ := mf_4 hO174 hc193
        have t197 := fI_of hc193 p195
        obtain ⟨f198, p199, t200⟩ := mf_38 hO174 hc193
        have t201 := fI_of hc193 p199
        have t202 := fI_keep (k := 4) hO0 hO174 (hu20.tr hu174) rfl (by decide)
        have t203 := fI_keep (k := 38) hO0 hO174 (hu20.tr hu174) rfl (by decide)
        exact ur_ret rfl rfl (hQ _ _ ⟨true, rfl⟩ hO174 (hu20.tr hu174))
    · refine ur_tabI rfl (by omega) (by rw [t32]; rfl) ?_
      refine ur_ldA rfl rfl ?_
      obtain ⟨f204, p205⟩ := mf_15 hO20 hc24
      refine ur_get rfl hc24 p205 ?_
      refine ur_push rfl ?_
      refine ur_divV rfl (by decide) (fun x206 e207 => ?_)
      have z208 := any_r f204
      have t209 : 0 ≤ f204.toInt → x206.toInt = f204.toInt / 15 := fun q => ti_div e207 l_15 (by decide) q
      refine ur_ldA rfl rfl ?_
      refine ur_get rfl hc24 (mf_46 hO20 hc24) ?_
      refine ur_ldI rfl rfl ?_
      obtain ⟨xs211, hc210, hn212, he213⟩ := hO20.int (hO20.fix 103 (by decide) rfl)
      refine ur_aldV rfl hc210 hn212 (by omega) (fun x214 hx215 => ?_)
      have t216 : -1 ≤ x214.toInt ∧ x214.toInt ≤ 149 := he213 _ _ hx215
      have z217 := any_r x206
      have z218 := any_r x214
      refine ur_if2 rfl (fun c219 => ?_) (fun c219 => ?_)
      · have t220 := ne_to c219
        refine ur_push rfl ?_
        obtain ⟨f221, p222, t223⟩ := mf_4 hO20 hc24
        have t224 := fI_of hc24 p222
        obtain ⟨f225, p226, t227⟩ := mf_38 hO20 hc24
        have t228 := fI_of hc24 p226
        have t229 := fI_keep (k := 4) hO0 hO20 hu20 rfl (by decide)
        have t230 := fI_keep (k := 38) hO0 hO20 hu20 rfl (by decide)
        exact ur_ret rfl rfl (hQ _ _ ⟨false, rfl⟩ hO20 hu20)
      · have t231 := ne_no c219
        refine ur_push rfl ?_
        refine ur_go rfl ?_
        obtain ⟨f232, p233, t234⟩ := mf_4 hO20 hc24
        have t235 := fI_of hc24 p233
        obtain ⟨f236, p237, t238⟩ := mf_38 hO20 hc24
        have t239 := fI_of hc24 p237
        have t240 := fI_keep (k := 4) hO0 hO20 hu20 rfl (by decide)
        have t241 := fI_keep (k := 38) hO0 hO20 hu20 rfl (by decide)
        exact ur_ret rfl rfl (hQ _ _ ⟨true, rfl⟩ hO20 hu20)
    · refine ur_tabI rfl (by omega) (by rw [t32]; rfl) ?_
      refine ur_ldA rfl rfl ?_
      refine ur_ldI rfl rfl ?_
      have t242 := fI_keep (k := 4) hO0 hO20 hu20 rfl (by decide)
      have t243 := fI_keep (k := 38) hO0 hO20 hu20 rfl (by decide)
      refine ur_inl rfl (rcv_of hc24) (Nat.le_of_ble_eq_true rfl) (Nat.le_of_ble_eq_true rfl) (sf_X12_isWest hO20 _ (fun w244 hr245 => ?_))
      obtain ⟨b246, rfl⟩ := hr245
      show uRun _ (uCall Mt _) _ 120 (_, [(.inl (bi b246))], _, _, _)
      refine ur_ldA rfl rfl ?_
      refine ur_get rfl hc24 (mf_46 hO20 hc24) ?_
      refine ur_ldI rfl rfl ?_
      obtain ⟨xs248, hc247, hn249, he250⟩ := hO20.int (hO20.fix 103 (by decide) rfl)
      refine ur_aldV rfl hc247 hn249 (by omega) (fun x251 hx252 => ?_)
      have t253 : -1 ≤ x251.toInt ∧ x251.toInt ≤ 149 := he250 _ _ hx252
      refine ur_push rfl ?_
      refine ur_if2 rfl (fun c254 => ?_) (fun c254 => ?_)
      · have t255 := ne_to c254
        refine ur_push rfl ?_
        refine ur_if2 rfl (fun c256 => ?_) (fun c256 => ?_)
        · have t257 := ne_to c256
          refine ur_push rfl ?_
          obtain ⟨f258, p259, t260⟩ := mf_4 hO20 hc24
          have t261 := fI_of hc24 p259
          obtain ⟨f262, p263, t264⟩ := mf_38 hO20 hc24
          have t265 := fI_of hc24 p263
          exact ur_ret rfl rfl (hQ _ _ ⟨false, rfl⟩ hO20 hu20)
        · have t266 := ne_no c256
          refine ur_push rfl ?_
          refine ur_go rfl ?_
          obtain ⟨f267, p268, t269⟩ := mf_4 hO20 hc24
          have t270 := fI_of hc24 p268
          obtain ⟨f271, p272, t273⟩ := mf_38 hO20 hc24
          have t274 := fI_of hc24 p272
          exact ur_ret rfl rfl (hQ _ _ ⟨true, rfl⟩ hO20 hu20)
      · have t275 := ne_no c254
        refine ur_push rfl ?_
        refine ur_go rfl ?_
        refine ur_if2 rfl (fun c276 => ?_) (fun c276 => ?_)
        · have t277 := ne_to c276
          refine ur_push rfl ?_
          obtain ⟨f278, p279, t280⟩ := mf_4 hO20 hc24
          have t281 := fI_of hc24 p279
          obtain ⟨f282, p283, t284⟩ := mf_38 hO20 hc24
          have t285 := fI_of hc24 p283
          exact ur_ret rfl rfl (hQ _ _ ⟨false, rfl⟩ hO20 hu20)
        · have t286 := ne_no c276
          refine ur_push rfl ?_
          refine ur_go rfl ?_
          obtain ⟨f287, p288, t289⟩ := mf_4 hO20 hc24
          have t290 := fI_of hc24 p288
          obtain ⟨f291, p292, t293⟩ := mf_38 hO20 hc24
          have t294 := fI_of hc24 p292
          exact ur_ret rfl rfl (hQ _ _ ⟨true, rfl⟩ hO20 hu20)
  · refine ur_push rfl ?_
    obtain ⟨fs295, hc296⟩ := hO20.mod
    obtain ⟨f297, p298, t299⟩ := mf_4 hO20 hc296
    have t300 := fI_of hc296 p298
    obtain ⟨f301, p302, t303⟩ := mf_38 hO20 hc296
    have t304 := fI_of hc296 p302
    have t305 := fI_keep (k := 4) hO0 hO20 hu20 rfl (by decide)
    have t306 := fI_keep (k := 38) hO0 hO20 hu20 rfl (by decide)
    exact ur_ret rfl rfl (hQ _ _ ⟨false, rfl⟩ hO20 hu20)

set_option maxRecDepth 20000 in
set_option maxHeartbeats 4000000 in
theorem sf_X12_findLook {d kc ks : Nat} {h0 : aH} {Q : Option aV → aH → Prop} (hO0 : OK h0) (hX0 : SX h0) (a1 : Int32) (b1 : 0 ≤ a1.toInt ∧ a1.toInt ≤ 149) (a2 : Int32) (a3 : Int32) (b3 : -400 ≤ a3.toInt ∧ a3.toInt ≤ 400) (a4 : Int32) (b4 : -20000 ≤ a4.toInt ∧ a4.toInt ≤ 1020000) (pre0 : a1.toInt < fI h0 38) (hQ : ∀ r h', (∃ q, r = some (.inl (bi q)) ∧ (q = true → 0 ≤ fI h' 52 ∧ fI h' 53 ≤ 999999 ∧ fI h' 52 ≤ fI h' 53)) → OK h' → un [] h0 h' → Q r h') : uCall Mt (d + 5) 249 [(.inr (.inr (some 69))), (.inl a1), (.inl a2), (.inl a3), (.inl a4)] h0 kc ks Q := by
  have l_0 : ((0) : Int32).toInt = 0 := by decide
  have l_1 : ((1) : Int32).toInt = 1 := by decide
  have l_120 : ((120) : Int32).toInt = 120 := by decide
  refine uc_ink [some (.inr (.inr (some 69))), some (.inl a1), some (.inl a2), some (.inl a3), some (.inl a4)] mt_249 (Nat.le_of_ble_eq_true rfl) rfl ?_
  obtain ⟨fs1, hc2⟩ := hO0.mod
  obtain ⟨f3, p4, t5⟩ := mf_38 hO0 hc2
  have t6 := fI_of hc2 p4
  obtain ⟨f7, p8⟩ := mf_50 hO0 hc2
  have t9 := fI_of hc2 p8
  obtain ⟨f10, p11⟩ := mf_51 hO0 hc2
  have t12 := fI_of hc2 p11
  obtain ⟨f13, p14⟩ := mf_52 hO0 hc2
  have t15 := fI_of hc2 p14
  obtain ⟨f16, p17⟩ := mf_53 hO0 hc2
  have t18 := fI_of hc2 p17
  refine ur_ldA rfl rfl ?_
  refine ur_ldI rfl rfl ?_
  refine ur_ldI rfl rfl ?_
  refine ur_ldI rfl rfl ?_
  refine ur_inl rfl (rcv_of hc2) (Nat.le_of_ble_eq_true rfl) (Nat.le_of_ble_eq_true rfl) (sf_X12_findSpan hO0 hX0 _ (by show 0 ≤ a1.toInt ∧ a1.toInt ≤ 149; omega) _ _ (by show -400 ≤ a3.toInt ∧ a3.toInt ≤ 400; omega) (by omega) (fun w19 h21 hr20 hO21 hv21 => ?_))
  have hu21 := hv21
  obtain ⟨b22, rfl, t23⟩ := hr20
  show uRun _ (uCall Mt _) _ 7 (_, [(.inl (bi b22))], _, _, _)
  refine ur_neB rfl (fun c24 => ?_) (fun c24 => ?_)
  · have t25 := t23 c24
    obtain ⟨fs26, hc27⟩ := hO21.mod
    obtain ⟨f28, p29⟩ := mf_50 hO21 hc27
    have t30 := fI_of hc27 p29
    obtain ⟨f31, p32⟩ := mf_51 hO21 hc27
    have t33 := fI_of hc27 p32
    refine ur_ldA rfl rfl ?_
    refine ur_ldA rfl rfl ?_
    refine ur_get rfl hc27 p29 ?_
    refine ur_ldI rfl rfl ?_
    refine ur_push rfl ?_
    refine ur_binV rfl (fun x34 e35 => ?_)
    have z36 := any_r a4
    have t37 := ti_sub e35 (by omega) (by omega)
    have z38 := any_r f28
    have z39 := any_r x34
    refine ur_if2 rfl (fun c40 => ?_) (fun c40 => ?_)
    · have t41 := le_to c40
      refine ur_ldA rfl rfl ?_
      refine ur_get rfl hc27 p29 ?_
      obtain ⟨f42, p43⟩ := mf_52 hO21 hc27
      have t44 := fI_of hc27 p43
      refine ur_putM (W := []) rfl hO21 hc27 (by decide) rfl (ms_52 (hO21.msh hc27)) (Or.inl rfl) (fun h46 hO46 hu46 d45 hc47 => ?_)
      have t48 := fI_of hc47 (gs_ne p29 (by decide))
      have t49 := fI_of hc47 (gs_ne p32 (by decide))
      have t50 := fI_of hc47 (gs_eq p43)
      refine ur_ldA rfl rfl ?_
      refine ur_ldA rfl rfl ?_
      refine ur_get rfl hc47 (gs_ne p32 (by decide)) ?_
      refine ur_ldI rfl rfl ?_
      refine ur_push rfl ?_
      refine ur_binV rfl (fun x51 e52 => ?_)
      have t53 := ti_add e52 (by omega) (by omega)
      have z54 := any_r f31
      have z55 := any_r x51
      refine ur_if2 rfl (fun c56 => ?_) (fun c56 => ?_)
      · have t57 := le_to c56
        refine ur_ldA rfl rfl ?_
        refine ur_get rfl hc47 (gs_ne p32 (by decide)) ?_
        obtain ⟨f58, p59⟩ := mf_53 hO46 hc47
        have t60 := fI_of hc47 p59
        refine ur_putM (W := []) rfl hO46 hc47 (by decide) rfl (ms_53 (hO46.msh hc47)) (Or.inl rfl) (fun h62 hO62 hu62 d61 hc63 => ?_)
        have t64 := fI_of hc63 (gs_ne (gs_ne p29 (by decide)) (by decide))
        have t65 := fI_of hc63 (gs_ne (gs_ne p32 (by decide)) (by decide))
        have t66 := fI_of hc63 (gs_ne (gs_eq p43) (by decide))
        have t67 := fI_of hc63 (gs_eq p59)
        refine ur_ldA rfl rfl ?_
        refine ur_get rfl hc63 (gs_ne (gs_eq p43) (by decide)) ?_
        refine ur_ldA rfl rfl ?_
        refine ur_get rfl hc63 (gs_eq p59) ?_
        refine ur_if2 rfl (fun c68 => ?_) (fun c68 => ?_)
        · have t69 := lt_to c68
          refine ur_push rfl ?_
          obtain ⟨f70, p71, t72⟩ := mf_38 hO62 hc63
          have t73 := fI_of hc63 p71
          have t74 := fI_keep (k := 38) hO0 hO62 (hu21.tr (hu46.tr hu62)) rfl (by decide)
          exact ur_ret rfl rfl (hQ _ _ ⟨false, rfl, fun e => absurd e (by decide)⟩ hO62 (hu21.tr (hu46.tr hu62)))
        · have t75 := lt_no c68
          refine ur_push rfl ?_
          refine ur_go rfl ?_
          obtain ⟨f76, p77, t78⟩ := mf_38 hO62 hc63
          have t79 := fI_of hc63 p77
          have t80 := fI_keep (k := 38) hO0 hO62 (hu21.tr (hu46.tr hu62)) rfl (by decide)
          exact ur_ret rfl rfl (hQ _ _ ⟨true, rfl, fun _ => by omega⟩ hO62 (hu21.tr (hu46.tr hu62)))
      · have t81 := le_no c56
        refine ur_ldI rfl rfl ?_
        refine ur_push rfl ?_
        refine ur_binV rfl (fun x82 e83 => ?_)
        have t84 := ti_add e83 (by omega) (by omega)
        refine ur_go rfl ?_
        obtain ⟨f85, p86⟩ := mf_53 hO46 hc47
        have t87 := fI_of hc47 p86
        refine ur_putM (W := []) rfl hO46 hc47 (by decide) rfl (ms_53 (hO46.msh hc47)) (Or.inl rfl) (fun h89 hO89 hu89 d88 hc90 => ?_)
        have t91 := fI_of hc90 (gs_ne (gs_ne p29 (by decide)) (by decide))
        have t92 := fI_of hc90 (gs_ne (gs_ne p32 (by decide)) (by decide))
        have t93 := fI_of hc90 (gs_ne (gs_eq p43) (by decide))
        have t94 := fI_of hc90 (gs_eq p86)
        refine ur_ldA rfl rfl ?_
        refine ur_get rfl hc90 (gs_ne (gs_eq p43) (by decide)) ?_
        refine ur_ldA rfl rfl ?_
        refine ur_get rfl hc90 (gs_eq p86) ?_
        have z95 := any_r x82
        refine ur_if2 rfl (fun c96 => ?_) (fun c96 => ?_)
        · have t97 := lt_to c96
          refine ur_push rfl ?_
          obtain ⟨f98, p99, t100⟩ := mf_38 hO89 hc90
          have t101 := fI_of hc90 p99
          have t102 := fI_keep (k := 38) hO0 hO89 (hu21.tr (hu46.tr hu89)) rfl (by decide)
          exact ur_ret rfl rfl (hQ _ _ ⟨false, rfl, fun e => absurd e (by decide)⟩ hO89 (hu21.tr (hu46.tr hu89)))
        · have t103 := lt_no c96
          refine ur_push rfl ?_
          refine ur_go rfl ?_
          obtain ⟨f104, p105, t106⟩ := mf_38 hO89 hc90
          have t107 := fI_of hc90 p105
          have t108 := fI_keep (k := 38) hO0 hO89 (hu21.tr (hu46.tr hu89)) rfl (by decide)
          exact ur_ret rfl rfl (hQ _ _ ⟨true, rfl, fun _ => by omega⟩ hO89 (hu21.tr (hu46.tr hu89)))
    · have t109 := le_no c40
      refine ur_ldI rfl rfl ?_
      refine ur_push rfl ?_
      refine ur_binV rfl (fun x110 e111 => ?_)
      have t112 := ti_sub e111 (by omega) (by omega)
      refine ur_go rfl ?_
      obtain ⟨f113, p114⟩ := mf_52 hO21 hc27
      have t115 := fI_of hc27 p114
      refine ur_putM (W := []) rfl hO21 hc27 (by decide) rfl (ms_52 (hO21.msh hc27)) (Or.inl rfl) (fun h117 hO117 hu117 d116 hc118 => ?_)
      have t119 := fI_of hc118 (gs_ne p29 (by decide))
      have t120 := fI_of hc118 (gs_ne p32 (by decide))
      have t121 := fI_of hc118 (gs_eq p114)
      refine ur_ldA rfl rfl ?_
      refine ur_ldA rfl rfl ?_
      refine ur_get rfl hc118 (gs_ne p32 (by decide)) ?_
      refine ur_ldI rfl rfl ?_
      refine ur_push rfl ?_
      refine ur_binV rfl (fun x122 e123 => ?_)
      have t124 := ti_add e123 (by omega) (by omega)
      have z125 := any_r f31
      have z126 := any_r x122
      refine ur_if2 rfl (fun c127 => ?_) (fun c127 => ?_)
      · have t128 := le_to c127
        refine ur_ldA rfl rfl ?_
        refine ur_get rfl hc118 (gs_ne p32 (by decide)) ?_
        obtain ⟨f129, p130⟩ := mf_53 hO117 hc118
        have t131 := fI_of hc118 p130
        refine ur_putM (W := []) rfl hO117 hc118 (by decide) rfl (ms_53 (hO117.msh hc118)) (Or.inl rfl) (fun h133 hO133 hu133 d132 hc134 => ?_)
        have t135 := fI_of hc134 (gs_ne (gs_ne p29 (by decide)) (by decide))
        have t136 := fI_of hc134 (gs_ne (gs_ne p32 (by decide)) (by decide))
        have t137 := fI_of hc134 (gs_ne (gs_eq p114) (by decide))
        have t138 := fI_of hc134 (gs_eq p130)
        refine ur_ldA rfl rfl ?_
        refine ur_get rfl hc134 (gs_ne (gs_eq p114) (by decide)) ?_
        refine ur_ldA rfl rfl ?_
        refine ur_get rfl hc134 (gs_eq p130) ?_
        have z139 := any_r x110
        refine ur_if2 rfl (fun c140 => ?_) (fun c140 => ?_)
        · have t141 := lt_to c140
          refine ur_push rfl ?_
          obtain ⟨f142, p143, t144⟩ := mf_38 hO133 hc134
          have t145 := fI_of hc134 p143
          have t146 := fI_keep (k := 38) hO0 hO133 (hu21.tr (hu117.tr hu133)) rfl (by decide)
          exact ur_ret rfl rfl (hQ _ _ ⟨false, rfl, fun e => absurd e (by decide)⟩ hO133 (hu21.tr (hu117.tr hu133)))
        · have t147 := lt_no c140
          refine ur_push rfl ?_
          refine ur_go rfl ?_
          obtain ⟨f148, p149, t150⟩ := mf_38 hO133 hc134
          have t151 := fI_of hc134 p149
          have t152 := fI_keep (k := 38) hO0 hO133 (hu21.tr (hu117.tr hu133)) rfl (by decide)
          exact ur_ret rfl rfl (hQ _ _ ⟨true, rfl, fun _ => by omega⟩ hO133 (hu21.tr (hu117.tr hu133)))
      · have t153 := le_no c127
        refine ur_ldI rfl rfl ?_
        refine ur_push rfl ?_
        refine ur_binV rfl (fun x154 e155 => ?_)
        have t156 := ti_add e155 (by omega) (by omega)
        refine ur_go rfl ?_
        obtain ⟨f157, p158⟩ := mf_53 hO117 hc118
        have t159 := fI_of hc118 p158
        refine ur_putM (W := []) rfl hO117 hc118 (by decide) rfl (ms_53 (hO117.msh hc118)) (Or.inl rfl) (fun h161 hO161 hu161 d160 hc162 => ?_)
        have t163 := fI_of hc162 (gs_ne (gs_ne p29 (by decide)) (by decide))
        have t164 := fI_of hc162 (gs_ne (gs_ne p32 (by decide)) (by decide))
        have t165 := fI_of hc162 (gs_ne (gs_eq p114) (by decide))
        have t166 := fI_of hc162 (gs_eq p158)
        refine ur_ldA rfl rfl ?_
        refine ur_get rfl hc162 (gs_ne (gs_eq p114) (by decide)) ?_
        refine ur_ldA rfl rfl ?_
        refine ur_get rfl hc162 (gs_eq p158) ?_
        have z167 := any_r x110
        have z168 := any_r x154
        refine ur_if2 rfl (fun c169 => ?_) (fun c169 => ?_)
        · have t170 := lt_to c169
          refine ur_push rfl ?_
          obtain ⟨f171, p172, t173⟩ := mf_38 hO161 hc162
          have t174 := fI_of hc162 p172
          have t175 := fI_keep (k := 38) hO0 hO161 (hu21.tr (hu117.tr hu161)) rfl (by decide)
          exact ur_ret rfl rfl (hQ _ _ ⟨false, rfl, fun e => absurd e (by decide)⟩ hO161 (hu21.tr (hu117.tr hu161)))
        · have t176 := lt_no c169
          refine ur_push rfl ?_
          refine ur_go rfl ?_
          obtain ⟨f177, p178, t179⟩ := mf_38 hO161 hc162
          have t180 := fI_of hc162 p178
          have t181 := fI_keep (k := 38) hO0 hO161 (hu21.tr (hu117.tr hu161)) rfl (by decide)
          exact ur_ret rfl rfl (hQ _ _ ⟨true, rfl, fun _ => by omega⟩ hO161 (hu21.tr (hu117.tr hu161)))
  · refine ur_push rfl ?_
    obtain ⟨fs182, hc183⟩ := hO21.mod
    obtain ⟨f184, p185, t186⟩ := mf_38 hO21 hc183
    have t187 := fI_of hc183 p185
    obtain ⟨f188, p189⟩ := mf_50 hO21 hc183
    have t190 := fI_of hc183 p189
    obtain ⟨f191, p192⟩ := mf_51 hO21 hc183
    have t193 := fI_of hc183 p192
    obtain ⟨f194, p195⟩ := mf_52 hO21 hc183
    have t196 := fI_of hc183 p195
    obtain ⟨f197, p198⟩ := mf_53 hO21 hc183
    have t199 := fI_of hc183 p198
    have t200 := fI_keep (k := 38) hO0 hO21 hu21 rfl (by decide)
    exact ur_ret rfl rfl (hQ _ _ ⟨false, rfl, fun e => absurd e (by decide)⟩ hO21 hu21)

set_option maxRecDepth 20000 in
set_option maxHeartbeats 4000000 in
theorem sf_X12_isTurned {d kc ks : Nat} {h0 : aH} {Q : Option aV → aH → Prop} (hO0 : OK h0) (hX0 : SX h0) (a1 : Int32) (b1 : 0 ≤ a1.toInt ∧ a1.toInt ≤ 149) (a2 : Int32) (b2 : 0 ≤ a2.toInt ∧ a2.toInt ≤ 11) (a3 : Int32) (b3 : -20000 ≤ a3.toInt ∧ a3.toInt ≤ 1020000) (a4 : Int32) (b4 : -400 ≤ a4.toInt ∧ a4.toInt ≤ 400) (pre0 : a1.toInt < fI h0 38) (pre1 : a2.toInt < fI h0 4) (hQ : ∀ r h', (∃ q, r = some (.inl (bi q))) → OK h' → un [] h0 h' → Q r h') : uCall Mt (d + 6) 250 [(.inr (.inr (some 69))), (.inl a1), (.inl a2), (.inl a3), (.inl a4)] h0 kc ks Q := by
  have l_0 : ((0) : Int32).toInt = 0 := by decide
  have l_1 : ((1) : Int32).toInt = 1 := by decide
  refine uc_ink [some (.inr (.inr (some 69))), some (.inl a1), some (.inl a2), some (.inl a3), some (.inl a4), none, none, none] mt_250 (Nat.le_of_ble_eq_true rfl) rfl ?_
  obtain ⟨fs1, hc2⟩ := hO0.mod
  obtain ⟨f3, p4, t5⟩ := mf_4 hO0 hc2
  have t6 := fI_of hc2 p4
  obtain ⟨f7, p8, t9⟩ := mf_38 hO0 hc2
  have t10 := fI_of hc2 p8
  refine ur_push rfl ?_
  refine ur_svIk [some (.inr (.inr (some 69))), some (.inl a1), some (.inl a2), some (.inl a3), some (.inl a4), some (.inl 0), none, none] rfl rfl ?_
  have L14 : ∀ (m15 : Nat) (x11 : Int32) (u12 : Option aV) (u13 : Option aV) (h17 : aH) , OK h17 → un [] h0 h17 → ((0 ≤ x11.toInt ∧ x11.toInt ≤ 2147483647)) → ((2147483648 - x11.toInt).toNat) < m15 → uRun oX12_isTurned (uCall Mt (d + 5)) Q 3 ([some (.inr (.inr (some 69))), some (.inl a1), some (.inl a2), some (.inl a3), some (.inl a4), some (.inl x11), u12, u13], [], h17, kc, ks) := by
    intro m15
    induction m15 with
    | zero => intro x11 u12 u13 h17 hO17 hu17 iv18 mm19; omega
    | succ m15 ih16 =>
      intro x11 u12 u13 h17 hO17 hu17 iv18 mm19
      refine ur_ldI rfl rfl ?_
      refine ur_ldA rfl rfl ?_
      refine ur_ldI rfl rfl ?_
      obtain ⟨fs20, hc21⟩ := hO17.mod
      obtain ⟨f22, p23, t24⟩ := mf_38 hO17 hc21
      have t25 := fI_of hc21 p23
      have t26 := fI_keep (k := 4) hO0 hO17 hu17 rfl (by decide)
      have t27 := fI_keep (k := 38) hO0 hO17 hu17 rfl (by decide)
      refine ur_inl rfl (rcv_of hc21) (Nat.le_of_ble_eq_true rfl) (Nat.le_of_ble_eq_true rfl) (sf_X12_spansOf hO17 (hX0.un hO0 hO17 hu17 (by decide)) _ (by show 0 ≤ a1.toInt ∧ a1.toInt ≤ 149; omega) (by omega) (fun w28 hr29 => ?_))
      obtain ⟨x30, rfl⟩ := hr29
      show uRun _ (uCall Mt _) _ 10 (_, [(.inl x30), (.inl x11)], _, _, _)
      have z31 := any_r x11
      have z32 := any_r x30
      refine ur_if2 rfl (fun c33 => ?_) (fun c33 => ?_)
      · have t34 := le_to c33
        refine ur_push rfl ?_
        obtain ⟨f35, p36, t37⟩ := mf_4 hO17 hc21
        have t38 := fI_of hc21 p36
        exact ur_ret rfl rfl (hQ _ _ ⟨false, rfl⟩ hO17 hu17)
      · have t39 := le_no c33
        refine ur_ldA rfl rfl ?_
        refine ur_ldI rfl rfl ?_
        refine ur_ldI rfl rfl ?_
        refine ur_ldI rfl rfl ?_
        refine ur_ldI rfl rfl ?_
        obtain ⟨f40, p41⟩ := mf_50 hO17 hc21
        have t42 := fI_of hc21 p41
        obtain ⟨f43, p44⟩ := mf_51 hO17 hc21
        have t45 := fI_of hc21 p44
        obtain ⟨f46, p47⟩ := mf_52 hO17 hc21
        have t48 := fI_of hc21 p47
        obtain ⟨f49, p50⟩ := mf_53 hO17 hc21
        have t51 := fI_of hc21 p50
        refine ur_inl rfl (rcv_of hc21) (Nat.le_of_ble_eq_true rfl) (Nat.le_of_ble_eq_true rfl) (sf_X12_findLook hO17 (hX0.un hO0 hO17 hu17 (by decide)) _ (by show 0 ≤ a1.toInt ∧ a1.toInt ≤ 149; omega) _ _ (by show -400 ≤ a4.toInt ∧ a4.toInt ≤ 400; omega) _ (by show -20000 ≤ a3.toInt ∧ a3.toInt ≤ 1020000; omega) (by omega) (fun w52 h54 hr53 hO54 hv54 => ?_))
        have hu54 := hv54
        obtain ⟨b55, rfl, t56⟩ := hr53
        show uRun _ (uCall Mt _) _ 23 (_, [(.inl (bi b55))], _, _, _)
        refine ur_neB rfl (fun c57 => ?_) (fun c57 => ?_)
        · have t58 := t56 c57
          refine ur_ldA rfl rfl ?_
          obtain ⟨fs59, hc60⟩ := hO54.mod
          obtain ⟨f61, p62⟩ := mf_53 hO54 hc60
          have t63 := fI_of hc60 p62
          refine ur_get rfl hc60 p62 ?_
          refine ur_svIk [some (.inr (.inr (some 69))), some (.inl a1), some (.inl a2), some (.inl a3), some (.inl a4), some (.inl x11), some (.inl f61), u13] rfl rfl ?_
          have t64 : 0 ≤ f61.toInt ∧ f61.toInt ≤ 999999 := by omega
          refine ur_ldA rfl rfl ?_
          obtain ⟨f65, p66⟩ := mf_52 hO54 hc60
          have t67 := fI_of hc60 p66
          refine ur_get rfl hc60 p66 ?_
          refine ur_svIk [some (.inr (.inr (some 69))), some (.inl a1), some (.inl a2), some (.inl a3), some (.inl a4), some (.inl x11), some (.inl f61), some (.inl f65)] rfl rfl ?_
          obtain ⟨f72, p73, t74⟩ := mf_4 hO54 hc60
          have t75 := fI_of hc60 p73
          obtain ⟨f76, p77, t78⟩ := mf_38 hO54 hc60
          have t79 := fI_of hc60 p77
          have L69 : ∀ (m70 : Nat) (x68 : Int32) (h80 : aH) , OK h80 → un [] h54 h80 → ((0 ≤ x68.toInt ∧ x68.toInt ≤ 1000000)) → ((1000001 - x68.toInt).toNat) < m70 → uRun oX12_isTurned (uCall Mt (d + 5)) Q 41 ([some (.inr (.inr (some 69))), some (.inl a1), some (.inl a2), some (.inl a3), some (.inl a4), some (.inl x11), some (.inl f61), some (.inl x68)], [], h80, kc, ks) := by
            intro m70
            induction m70 with
            | zero => intro x68 h80 hO80 hu80 iv81 mm82; omega
            | succ m70 ih71 =>
              intro x68 h80 hO80 hu80 iv81 mm82
              refine ur_ldI rfl rfl ?_
              refine ur_ldI rfl rfl ?_
              have z83 := any_r x68
              have z84 := any_r f61
              refine ur_if2 rfl (fun c85 => ?_) (fun c85 => ?_)
              · have t86 := lt_to c85
                refine ur_incV (fun z => [some (.inr (.inr (some 69))), some (.inl a1), some (.inl a2), some (.inl a3), some (.inl a4), some (.inl z), some (.inl f61), some (.inl x68)]) rfl rfl (fun _ => rfl) (fun x87 e88 => ?_)
                have t89 := ti_add e88 (by omega) (by omega)
                refine ur_go rfl ?_
                obtain ⟨fs90, hc91⟩ := hO80.mod
                obtain ⟨f92, p93, t94⟩ := mf_4 hO80 hc91
                have t95 := fI_of hc91 p93
                obtain ⟨f96, p97, t98⟩ := mf_38 hO80 hc91
                have t99 := fI_of hc91 p97
                have z100 := any_r x87
                exact ih16 x87 _ _ _ hO80 (hu17.tr (hu54.tr hu80)) (by omega) (by omega)
              · have t101 := lt_no c85
                refine ur_ldA rfl rfl ?_
                refine ur_ldI rfl rfl ?_
                refine ur_ldI rfl rfl ?_
                refine ur_ldA rfl rfl ?_
                obtain ⟨fs102, hc103⟩ := hO80.mod
                refine ur_get rfl hc103 (mf_40 hO80 hc103) ?_
                refine ur_ldI rfl rfl ?_
                obtain ⟨xs105, hc104, hn106, he107⟩ := hO80.int (hO80.fix 97 (by decide) rfl)
                refine ur_aldV rfl hc104 hn106 (by omega) (fun x108 hx109 => ?_)
                have t110 : 0 ≤ x108.toInt ∧ x108.toInt ≤ 8 := he107 _ _ hx109
                refine ur_ldI rfl rfl ?_
                obtain ⟨f111, p112, t113⟩ := mf_4 hO80 hc103
                have t114 := fI_of hc103 p112
                have t115 := fI_keep (k := 4) hO0 hO80 (hu17.tr (hu54.tr hu80)) rfl (by decide)
                have t116 := fI_keep (k := 38) hO0 hO80 (hu17.tr (hu54.tr hu80)) rfl (by decide)
                refine ur_inl rfl (rcv_of hc103) (Nat.le_of_ble_eq_true rfl) (Nat.le_of_ble_eq_true rfl) (sf_X12_canSee hO80 (hX0.un hO0 hO80 (hu17.tr (hu54.tr hu80)) (by decide)) _ (by show 0 ≤ a2.toInt ∧ a2.toInt ≤ 11; omega) _ _ _ (by omega) (fun w117 h119 hr118 hO119 hv119 => ?_))
                have hu119 := hv119
                obtain ⟨b120, rfl⟩ := hr118
                show uRun _ (uCall Mt _) _ 62 (_, [(.inl (bi b120))], _, _, _)
                refine ur_eqB rfl (fun c121 => ?_) (fun c121 => ?_)
                · refine ur_incV (fun z => [some (.inr (.inr (some 69))), some (.inl a1), some (.inl a2), some (.inl a3), some (.inl a4), some (.inl x11), some (.inl f61), some (.inl z)]) rfl rfl (fun _ => rfl) (fun x122 e123 => ?_)
                  have t124 := ti_add e123 (by omega) (by omega)
                  refine ur_go rfl ?_
                  obtain ⟨fs125, hc126⟩ := hO119.mod
                  obtain ⟨f127, p128, t129⟩ := mf_4 hO119 hc126
                  have t130 := fI_of hc126 p128
                  obtain ⟨f131, p132, t133⟩ := mf_38 hO119 hc126
                  have t134 := fI_of hc126 p132
                  have z135 := any_r x122
                  exact ih71 x122 _ hO119 (hu80.tr hu119) (by omega) (by omega)
                · refine ur_ldA rfl rfl ?_
                  refine ur_ldI rfl rfl ?_
                  obtain ⟨fs136, hc137⟩ := hO119.mod
                  have t138 := fI_keep (k := 4) hO0 hO119 (hu17.tr (hu54.tr (hu80.tr hu119))) rfl (by decide)
                  have t139 := fI_keep (k := 38) hO0 hO119 (hu17.tr (hu54.tr (hu80.tr hu119))) rfl (by decide)
                  refine ur_inl rfl (rcv_of hc137) (Nat.le_of_ble_eq_true rfl) (Nat.le_of_ble_eq_true rfl) (sf_X12_isWest hO119 _ (fun w140 hr141 => ?_))
                  obtain ⟨b142, rfl⟩ := hr141
                  show uRun _ (uCall Mt _) _ 71 (_, [(.inl (bi b142))], _, _, _)
                  refine ur_ldA rfl rfl ?_
                  refine ur_get rfl hc137 (mf_46 hO119 hc137) ?_
                  refine ur_ldI rfl rfl ?_
                  obtain ⟨xs144, hc143, hn145, he146⟩ := hO119.int (hO119.fix 103 (by decide) rfl)
                  refine ur_aldV rfl hc143 hn145 (by omega) (fun x147 hx148 => ?_)
                  have t149 : -1 ≤ x147.toInt ∧ x147.toInt ≤ 149 := he146 _ _ hx148
                  refine ur_push rfl ?_
                  refine ur_if2 rfl (fun c150 => ?_) (fun c150 => ?_)
                  · have t151 := ne_to c150
                    refine ur_push rfl ?_
                    refine ur_if2 rfl (fun c152 => ?_) (fun c152 => ?_)
                    · have t153 := eq_to c152
                      refine ur_incV (fun z => [some (.inr (.inr (some 69))), some (.inl a1), some (.inl a2), some (.inl a3), some (.inl a4), some (.inl x11), some (.inl f61), some (.inl z)]) rfl rfl (fun _ => rfl) (fun x154 e155 => ?_)
                      have t156 := ti_add e155 (by omega) (by omega)
                      refine ur_go rfl ?_
                      obtain ⟨f157, p158, t159⟩ := mf_4 hO119 hc137
                      have t160 := fI_of hc137 p158
                      obtain ⟨f161, p162, t163⟩ := mf_38 hO119 hc137
                      have t164 := fI_of hc137 p162
                      have z165 := any_r x154
                      exact ih71 x154 _ hO119 (hu80.tr hu119) (by omega) (by omega)
                    · have t166 := eq_no c152
                      refine ur_push rfl ?_
                      obtain ⟨f167, p168, t169⟩ := mf_4 hO119 hc137
                      have t170 := fI_of hc137 p168
                      obtain ⟨f171, p172, t173⟩ := mf_38 hO119 hc137
                      have t174 := fI_of hc137 p172
                      exact ur_ret rfl rfl (hQ _ _ ⟨true, rfl⟩ hO119 (hu17.tr (hu54.tr (hu80.tr hu119))))
                  · have t175 := ne_no c150
                    refine ur_push rfl ?_
                    refine ur_go rfl ?_
                    refine ur_if2 rfl (fun c176 => ?_) (fun c176 => ?_)
                    · have t177 := eq_to c176
                      refine ur_incV (fun z => [some (.inr (.inr (some 69))), some (.inl a1), some (.inl a2), some (.inl a3), some (.inl a4), some (.inl x11), some (.inl f61), some (.inl z)]) rfl rfl (fun _ => rfl) (fun x178 e179 => ?_)
                      have t180 := ti_add e179 (by omega) (by omega)
                      refine ur_go rfl ?_
                      obtain ⟨f181, p182, t183⟩ := mf_4 hO119 hc137
                      have t184 := fI_of hc137 p182
                      obtain ⟨f185, p186, t187⟩ := mf_38 hO119 hc137
                      have t188 := fI_of hc137 p186
                      have z189 := any_r x178
                      exact ih71 x178 _ hO119 (hu80.tr hu119) (by omega) (by omega)
                    · have t190 := eq_no c176
                      refine ur_push rfl ?_
                      obtain ⟨f191, p192, t193⟩ := mf_4 hO119 hc137
                      have t194 := fI_of hc137 p192
                      obtain ⟨f195, p196, t197⟩ := mf_38 hO119 hc137
                      have t198 := fI_of hc137 p196
                      exact ur_ret rfl rfl (hQ _ _ ⟨true, rfl⟩ hO119 (hu17.tr (hu54.tr (hu80.tr hu119))))
          have z199 := any_r f65
          exact L69 _ f65 _ hO54 un.rf (by omega) (Nat.lt_succ_self _)
        · refine ur_go rfl ?_
          refine ur_incV (fun z => [some (.inr (.inr (some 69))), some (.inl a1), some (.inl a2), some (.inl a3), some (.inl a4), some (.inl z), u12, u13]) rfl rfl (fun _ => rfl) (fun x200 e201 => ?_)
          have t202 := ti_add e201 (by omega) (by omega)
          refine ur_go rfl ?_
          obtain ⟨fs203, hc204⟩ := hO54.mod
          obtain ⟨f205, p206, t207⟩ := mf_4 hO54 hc204
          have t208 := fI_of hc204 p206
          obtain ⟨f209, p210, t211⟩ := mf_38 hO54 hc204
          have t212 := fI_of hc204 p210
          have z213 := any_r x200
          exact ih16 x200 _ _ _ hO54 (hu17.tr hu54) (by omega) (by omega)
  exact L14 _ 0 (none) (none) _ hO0 un.rf (by omega) (Nat.lt_succ_self _)

set_option maxRecDepth 20000 in
set_option maxHeartbeats 4000000 in
theorem sf_X12_fitDay {d kc ks : Nat} {h0 : aH} {Q : Option aV → aH → Prop} (hO0 : OK h0) (hX0 : SX h0) (a1 : Int32) (b1 : 0 ≤ a1.toInt ∧ a1.toInt ≤ 149) (a2 : Int32) (b2 : 0 ≤ a2.toInt ∧ a2.toInt ≤ 11) (a3 : Int32) (b3 : -20000 ≤ a3.toInt ∧ a3.toInt ≤ 1020000) (a4 : Int32) (b4 : -400 ≤ a4.toInt ∧ a4.toInt ≤ 400) (a5 : Int32) (b5 : 0 ≤ a5.toInt ∧ a5.toInt ≤ 1020000) (pre0 : a1.toInt < fI h0 38) (pre1 : a2.toInt < fI h0 4) (hQ : ∀ r h', (∃ x : Int32, r = some (.inl x) ∧ -1 ≤ x.toInt ∧ x.toInt ≤ 999999) → OK h' → un [] h0 h' → Q r h') : uCall Mt (d + 7) 251 [(.inr (.inr (some 69))), (.inl a1), (.inl a2), (.inl a3), (.inl a4), (.inl a5)] h0 kc ks Q := by
  have l_m1 : ((-1) : Int32).toInt = -1 := by decide
  have l_0 : ((0) : Int32).toInt = 0 := by decide
  have l_1 : ((1) : Int32).toInt = 1 := by decide
  have l_7 : ((7) : Int32).toInt = 7 := by decide
  refine uc_ink [some (.inr (.inr (some 69))), some (.inl a1), some (.inl a2), some (.inl a3), some (.inl a4), some (.inl a5), none, none, none, none] mt_251 (Nat.le_of_ble_eq_true rfl) rfl ?_
  obtain ⟨fs1, hc2⟩ := hO0.mod
  obtain ⟨f3, p4, t5⟩ := mf_4 hO0 hc2
  have t6 := fI_of hc2 p4
  obtain ⟨f7, p8, t9⟩ := mf_38 hO0 hc2
  have t10 := fI_of hc2 p8
  refine ur_push rfl ?_
  refine ur_svIk [some (.inr (.inr (some 69))), some (.inl a1), some (.inl a2), some (.inl a3), some (.inl a4), some (.inl a5), some (.inl (-1)), none, none, none] rfl rfl ?_
  refine ur_push rfl ?_
  refine ur_svIk [some (.inr (.inr (some 69))), some (.inl a1), some (.inl a2), some (.inl a3), some (.inl a4), some (.inl a5), some (.inl (-1)), some (.inl 0), none, none] rfl rfl ?_
  have L15 : ∀ (m16 : Nat) (x11 : Int32) (x12 : Int32) (u13 : Option aV) (u14 : Option aV) (h18 : aH) , OK h18 → un [] h0 h18 → ((-1 ≤ x11.toInt ∧ x11.toInt ≤ 999999) ∧ (0 ≤ x12.toInt ∧ x12.toInt ≤ 2147483647)) → ((2147483648 - x12.toInt).toNat) < m16 → uRun oX12_fitDay (uCall Mt (d + 6)) Q 6 ([some (.inr (.inr (some 69))), some (.inl a1), some (.inl a2), some (.inl a3), some (.inl a4), some (.inl a5), some (.inl x11), some (.inl x12), u13, u14], [], h18, kc, ks) := by
    intro m16
    induction m16 with
    | zero => intro x11 x12 u13 u14 h18 hO18 hu18 iv19 mm20; omega
    | succ m16 ih17 =>
      intro x11 x12 u13 u14 h18 hO18 hu18 iv19 mm20
      refine ur_ldI rfl rfl ?_
      refine ur_ldA rfl rfl ?_
      refine ur_ldI rfl rfl ?_
      obtain ⟨fs21, hc22⟩ := hO18.mod
      obtain ⟨f23, p24, t25⟩ := mf_38 hO18 hc22
      have t26 := fI_of hc22 p24
      have t27 := fI_keep (k := 4) hO0 hO18 hu18 rfl (by decide)
      have t28 := fI_keep (k := 38) hO0 hO18 hu18 rfl (by decide)
      refine ur_inl rfl (rcv_of hc22) (Nat.le_of_ble_eq_true rfl) (Nat.le_of_ble_eq_true rfl) (sf_X12_spansOf hO18 (hX0.un hO0 hO18 hu18 (by decide)) _ (by show 0 ≤ a1.toInt ∧ a1.toInt ≤ 149; omega) (by omega) (fun w29 hr30 => ?_))
      obtain ⟨x31, rfl⟩ := hr30
      show uRun _ (uCall Mt _) _ 13 (_, [(.inl x31), (.inl x12)], _, _, _)
      have z32 := any_r x12
      have z33 := any_r x31
      refine ur_if2 rfl (fun c34 => ?_) (fun c34 => ?_)
      · have t35 := le_to c34
        refine ur_ldI rfl rfl ?_
        refine ur_if1 rfl (fun c36 => ?_) (fun c36 => ?_)
        · have t37 := lt_to c36
          refine ur_ldI rfl rfl ?_
          obtain ⟨f38, p39, t40⟩ := mf_4 hO18 hc22
          have t41 := fI_of hc22 p39
          exact ur_ret rfl rfl (hQ _ _ ⟨_, rfl, by omega⟩ hO18 hu18)
        · have t42 := lt_no c36
          refine ur_ldA rfl rfl ?_
          refine ur_get rfl hc22 (mf_39 hO18 hc22) ?_
          refine ur_ldI rfl rfl ?_
          obtain ⟨xs44, hc43, hn45, he46⟩ := hO18.int (hO18.fix 96 (by decide) rfl)
          refine ur_aldV rfl hc43 hn45 (by omega) (fun x47 hx48 => ?_)
          have t49 : 0 ≤ x47.toInt ∧ x47.toInt ≤ 7 := he46 _ _ hx48
          refine ur_push rfl ?_
          refine ur_if2 rfl (fun c50 => ?_) (fun c50 => ?_)
          · have t51 := ne_to c50
            refine ur_ldI rfl rfl ?_
            obtain ⟨f52, p53, t54⟩ := mf_4 hO18 hc22
            have t55 := fI_of hc22 p53
            exact ur_ret rfl rfl (hQ _ _ ⟨_, rfl, by omega⟩ hO18 hu18)
          · have t56 := ne_no c50
            refine ur_ldA rfl rfl ?_
            refine ur_ldI rfl rfl ?_
            refine ur_ldI rfl rfl ?_
            refine ur_ldI rfl rfl ?_
            refine ur_ldI rfl rfl ?_
            obtain ⟨f57, p58, t59⟩ := mf_4 hO18 hc22
            have t60 := fI_of hc22 p58
            refine ur_inl rfl (rcv_of hc22) (Nat.le_of_ble_eq_true rfl) (Nat.le_of_ble_eq_true rfl) (sf_X12_isTurned hO18 (hX0.un hO0 hO18 hu18 (by decide)) _ (by show 0 ≤ a1.toInt ∧ a1.toInt ≤ 149; omega) _ (by show 0 ≤ a2.toInt ∧ a2.toInt ≤ 11; omega) _ (by show -20000 ≤ a3.toInt ∧ a3.toInt ≤ 1020000; omega) _ (by show -400 ≤ a4.toInt ∧ a4.toInt ≤ 400; omega) (by omega) (by omega) (fun w61 h63 hr62 hO63 hv63 => ?_))
            have hu63 := hv63
            obtain ⟨b64, rfl⟩ := hr62
            show uRun _ (uCall Mt _) _ 130 (_, [(.inl (bi b64))], _, _, _)
            refine ur_neB rfl (fun c65 => ?_) (fun c65 => ?_)
            · refine ur_ldI rfl rfl ?_
              obtain ⟨fs66, hc67⟩ := hO63.mod
              obtain ⟨f68, p69, t70⟩ := mf_4 hO63 hc67
              have t71 := fI_of hc67 p69
              obtain ⟨f72, p73, t74⟩ := mf_38 hO63 hc67
              have t75 := fI_of hc67 p73
              have t76 := fI_keep (k := 4) hO0 hO63 (hu18.tr hu63) rfl (by decide)
              have t77 := fI_keep (k := 38) hO0 hO63 (hu18.tr hu63) rfl (by decide)
              exact ur_ret rfl rfl (hQ _ _ ⟨_, rfl, by omega⟩ hO63 (hu18.tr hu63))
            · refine ur_push rfl ?_
              refine ur_go rfl ?_
              obtain ⟨fs78, hc79⟩ := hO63.mod
              obtain ⟨f80, p81, t82⟩ := mf_4 hO63 hc79
              have t83 := fI_of hc79 p81
              obtain ⟨f84, p85, t86⟩ := mf_38 hO63 hc79
              have t87 := fI_of hc79 p85
              have t88 := fI_keep (k := 4) hO0 hO63 (hu18.tr hu63) rfl (by decide)
              have t89 := fI_keep (k := 38) hO0 hO63 (hu18.tr hu63) rfl (by decide)
              exact ur_ret rfl rfl (hQ _ _ ⟨_, rfl, by omega⟩ hO63 (hu18.tr hu63))
      · have t90 := le_no c34
        refine ur_ldA rfl rfl ?_
        refine ur_ldI rfl rfl ?_
        refine ur_ldI rfl rfl ?_
        refine ur_ldI rfl rfl ?_
        refine ur_ldI rfl rfl ?_
        obtain ⟨f91, p92⟩ := mf_50 hO18 hc22
        have t93 := fI_of hc22 p92
        obtain ⟨f94, p95⟩ := mf_51 hO18 hc22
        have t96 := fI_of hc22 p95
        obtain ⟨f97, p98⟩ := mf_52 hO18 hc22
        have t99 := fI_of hc22 p98
        obtain ⟨f100, p101⟩ := mf_53 hO18 hc22
        have t102 := fI_of hc22 p101
        refine ur_inl rfl (rcv_of hc22) (Nat.le_of_ble_eq_true rfl) (Nat.le_of_ble_eq_true rfl) (sf_X12_findLook hO18 (hX0.un hO0 hO18 hu18 (by decide)) _ (by show 0 ≤ a1.toInt ∧ a1.toInt ≤ 149; omega) _ _ (by show -400 ≤ a4.toInt ∧ a4.toInt ≤ 400; omega) _ (by show -20000 ≤ a3.toInt ∧ a3.toInt ≤ 1020000; omega) (by omega) (fun w103 h105 hr104 hO105 hv105 => ?_))
        have hu105 := hv105
        obtain ⟨b106, rfl, t107⟩ := hr104
        show uRun _ (uCall Mt _) _ 26 (_, [(.inl (bi b106))], _, _, _)
        refine ur_neB rfl (fun c108 => ?_) (fun c108 => ?_)
        · have t109 := t107 c108
          refine ur_ldA rfl rfl ?_
          obtain ⟨fs110, hc111⟩ := hO105.mod
          obtain ⟨f112, p113⟩ := mf_53 hO105 hc111
          have t114 := fI_of hc111 p113
          refine ur_get rfl hc111 p113 ?_
          refine ur_svIk [some (.inr (.inr (some 69))), some (.inl a1), some (.inl a2), some (.inl a3), some (.inl a4), some (.inl a5), some (.inl x11), some (.inl x12), some (.inl f112), u14] rfl rfl ?_
          have t115 : 0 ≤ f112.toInt ∧ f112.toInt ≤ 999999 := by omega
          refine ur_ldA rfl rfl ?_
          obtain ⟨f116, p117⟩ := mf_52 hO105 hc111
          have t118 := fI_of hc111 p117
          refine ur_get rfl hc111 p117 ?_
          refine ur_ldI rfl rfl ?_
          have z119 := any_r f116
          have z120 := any_r a5
          refine ur_if2 rfl (fun c121 => ?_) (fun c121 => ?_)
          · have t122 := le_to c121
            refine ur_ldA rfl rfl ?_
            refine ur_get rfl hc111 p117 ?_
            refine ur_svIk [some (.inr (.inr (some 69))), some (.inl a1), some (.inl a2), some (.inl a3), some (.inl a4), some (.inl a5), some (.inl x11), some (.inl x12), some (.inl f112), some (.inl f116)] rfl rfl ?_
            obtain ⟨f128, p129, t130⟩ := mf_4 hO105 hc111
            have t131 := fI_of hc111 p129
            obtain ⟨f132, p133, t134⟩ := mf_38 hO105 hc111
            have t135 := fI_of hc111 p133
            have L125 : ∀ (m126 : Nat) (x123 : Int32) (x124 : Int32) (h136 : aH) , OK h136 → un [] h105 h136 → ((-1 ≤ x123.toInt ∧ x123.toInt ≤ 999999) ∧ (0 ≤ x124.toInt ∧ x124.toInt ≤ 1020000)) → ((1020001 - x124.toInt).toNat) < m126 → uRun oX12_fitDay (uCall Mt (d + 6)) Q 58 ([some (.inr (.inr (some 69))), some (.inl a1), some (.inl a2), some (.inl a3), some (.inl a4), some (.inl a5), some (.inl x123), some (.inl x12), some (.inl f112), some (.inl x124)], [], h136, kc, ks) := by
              intro m126
              induction m126 with
              | zero => intro x123 x124 h136 hO136 hu136 iv137 mm138; omega
              | succ m126 ih127 =>
                intro x123 x124 h136 hO136 hu136 iv137 mm138
                refine ur_ldI rfl rfl ?_
                refine ur_ldI rfl rfl ?_
                have z139 := any_r x124
                have z140 := any_r f112
                refine ur_if2 rfl (fun c141 => ?_) (fun c141 => ?_)
                · have t142 := lt_to c141
                  refine ur_incV (fun z => [some (.inr (.inr (some 69))), some (.inl a1), some (.inl a2), some (.inl a3), some (.inl a4), some (.inl a5), some (.inl x123), some (.inl z), some (.inl f112), some (.inl x124)]) rfl rfl (fun _ => rfl) (fun x143 e144 => ?_)
                  have t145 := ti_add e144 (by omega) (by omega)
                  refine ur_go rfl ?_
                  obtain ⟨fs146, hc147⟩ := hO136.mod
                  obtain ⟨f148, p149, t150⟩ := mf_4 hO136 hc147
                  have t151 := fI_of hc147 p149
                  obtain ⟨f152, p153, t154⟩ := mf_38 hO136 hc147
                  have t155 := fI_of hc147 p153
                  have z156 := any_r x123
                  have z157 := any_r x143
                  exact ih17 x123 x143 _ _ _ hO136 (hu18.tr (hu105.tr hu136)) (by omega) (by omega)
                · have t158 := lt_no c141
                  refine ur_ldI rfl rfl ?_
                  refine ur_if1 rfl (fun c159 => ?_) (fun c159 => ?_)
                  · have t160 := lt_to c159
                    refine ur_ldA rfl rfl ?_
                    refine ur_ldI rfl rfl ?_
                    refine ur_ldI rfl rfl ?_
                    refine ur_ldI rfl rfl ?_
                    refine ur_ldI rfl rfl ?_
                    obtain ⟨fs161, hc162⟩ := hO136.mod
                    obtain ⟨f163, p164, t165⟩ := mf_4 hO136 hc162
                    have t166 := fI_of hc162 p164
                    obtain ⟨f167, p168, t169⟩ := mf_38 hO136 hc162
                    have t170 := fI_of hc162 p168
                    have t171 := fI_keep (k := 4) hO0 hO136 (hu18.tr (hu105.tr hu136)) rfl (by decide)
                    have t172 := fI_keep (k := 38) hO0 hO136 (hu18.tr (hu105.tr hu136)) rfl (by decide)
                    refine ur_inl rfl (rcv_of hc162) (Nat.le_of_ble_eq_true rfl) (Nat.le_of_ble_eq_true rfl) (sf_X12_fitsOn hO136 (hX0.un hO0 hO136 (hu18.tr (hu105.tr hu136)) (by decide)) _ (by show 0 ≤ a1.toInt ∧ a1.toInt ≤ 149; omega) _ (by show 0 ≤ a2.toInt ∧ a2.toInt ≤ 11; omega) _ (by show -20000 ≤ a3.toInt ∧ a3.toInt ≤ 1020000; omega) _ (by omega) (by omega) (fun w173 h175 hr174 hO175 hv175 => ?_))
                    have hu175 := hv175
                    obtain ⟨b176, rfl⟩ := hr174
                    show uRun _ (uCall Mt _) _ 86 (_, [(.inl (bi b176))], _, _, _)
                    refine ur_eqB rfl (fun c177 => ?_) (fun c177 => ?_)
                    · refine ur_incV (fun z => [some (.inr (.inr (some 69))), some (.inl a1), some (.inl a2), some (.inl a3), some (.inl a4), some (.inl a5), some (.inl x123), some (.inl x12), some (.inl f112), some (.inl z)]) rfl rfl (fun _ => rfl) (fun x178 e179 => ?_)
                      have t180 := ti_add e179 (by omega) (by omega)
                      refine ur_go rfl ?_
                      obtain ⟨fs181, hc182⟩ := hO175.mod
                      obtain ⟨f183, p184, t185⟩ := mf_4 hO175 hc182
                      have t186 := fI_of hc182 p184
                      obtain ⟨f187, p188, t189⟩ := mf_38 hO175 hc182
                      have t190 := fI_of hc182 p188
                      have z191 := any_r x123
                      have z192 := any_r x178
                      exact ih127 x123 x178 _ hO175 (hu136.tr hu175) (by omega) (by omega)
                    · refine ur_ldI rfl rfl ?_
                      refine ur_svIk [some (.inr (.inr (some 69))), some (.inl a1), some (.inl a2), some (.inl a3), some (.inl a4), some (.inl a5), some (.inl x124), some (.inl x12), some (.inl f112), some (.inl x124)] rfl rfl ?_
                      refine ur_incV (fun z => [some (.inr (.inr (some 69))), some (.inl a1), some (.inl a2), some (.inl a3), some (.inl a4), some (.inl a5), some (.inl x124), some (.inl x12), some (.inl f112), some (.inl z)]) rfl rfl (fun _ => rfl) (fun x193 e194 => ?_)
                      have t195 := ti_add e194 (by omega) (by omega)
                      refine ur_go rfl ?_
                      obtain ⟨fs196, hc197⟩ := hO175.mod
                      obtain ⟨f198, p199, t200⟩ := mf_4 hO175 hc197
                      have t201 := fI_of hc197 p199
                      obtain ⟨f202, p203, t204⟩ := mf_38 hO175 hc197
                      have t205 := fI_of hc197 p203
                      have z206 := any_r x193
                      exact ih127 x124 x193 _ hO175 (hu136.tr hu175) (by omega) (by omega)
                  · have t207 := lt_no c159
                    refine ur_ldI rfl rfl ?_
                    refine ur_ldI rfl rfl ?_
                    have z208 := any_r x123
                    refine ur_if2 rfl (fun c209 => ?_) (fun c209 => ?_)
                    · have t210 := le_to c209
                      refine ur_incV (fun z => [some (.inr (.inr (some 69))), some (.inl a1), some (.inl a2), some (.inl a3), some (.inl a4), some (.inl a5), some (.inl x123), some (.inl z), some (.inl f112), some (.inl x124)]) rfl rfl (fun _ => rfl) (fun x211 e212 => ?_)
                      have t213 := ti_add e212 (by omega) (by omega)
                      refine ur_go rfl ?_
                      obtain ⟨fs214, hc215⟩ := hO136.mod
                      obtain ⟨f216, p217, t218⟩ := mf_4 hO136 hc215
                      have t219 := fI_of hc215 p217
                      obtain ⟨f220, p221, t222⟩ := mf_38 hO136 hc215
                      have t223 := fI_of hc215 p221
                      have z224 := any_r x211
                      exact ih17 x123 x211 _ _ _ hO136 (hu18.tr (hu105.tr hu136)) (by omega) (by omega)
                    · have t225 := le_no c209
                      refine ur_ldA rfl rfl ?_
                      refine ur_ldI rfl rfl ?_
                      refine ur_ldI rfl rfl ?_
                      refine ur_ldI rfl rfl ?_
                      refine ur_ldI rfl rfl ?_
                      obtain ⟨fs226, hc227⟩ := hO136.mod
                      obtain ⟨f228, p229, t230⟩ := mf_4 hO136 hc227
                      have t231 := fI_of hc227 p229
                      obtain ⟨f232, p233, t234⟩ := mf_38 hO136 hc227
                      have t235 := fI_of hc227 p233
                      have t236 := fI_keep (k := 4) hO0 hO136 (hu18.tr (hu105.tr hu136)) rfl (by decide)
                      have t237 := fI_keep (k := 38) hO0 hO136 (hu18.tr (hu105.tr hu136)) rfl (by decide)
                      refine ur_inl rfl (rcv_of hc227) (Nat.le_of_ble_eq_true rfl) (Nat.le_of_ble_eq_true rfl) (sf_X12_fitsOn hO136 (hX0.un hO0 hO136 (hu18.tr (hu105.tr hu136)) (by decide)) _ (by show 0 ≤ a1.toInt ∧ a1.toInt ≤ 149; omega) _ (by show 0 ≤ a2.toInt ∧ a2.toInt ≤ 11; omega) _ (by show -20000 ≤ a3.toInt ∧ a3.toInt ≤ 1020000; omega) _ (by omega) (by omega) (fun w238 h240 hr239 hO240 hv240 => ?_))
                      have hu240 := hv240
                      obtain ⟨b241, rfl⟩ := hr239
                      show uRun _ (uCall Mt _) _ 86 (_, [(.inl (bi b241))], _, _, _)
                      refine ur_eqB rfl (fun c242 => ?_) (fun c242 => ?_)
                      · refine ur_incV (fun z => [some (.inr (.inr (some 69))), some (.inl a1), some (.inl a2), some (.inl a3), some (.inl a4), some (.inl a5), some (.inl x123), some (.inl x12), some (.inl f112), some (.inl z)]) rfl rfl (fun _ => rfl) (fun x243 e244 => ?_)
                        have t245 := ti_add e244 (by omega) (by omega)
                        refine ur_go rfl ?_
                        obtain ⟨fs246, hc247⟩ := hO240.mod
                        obtain ⟨f248, p249, t250⟩ := mf_4 hO240 hc247
                        have t251 := fI_of hc247 p249
                        obtain ⟨f252, p253, t254⟩ := mf_38 hO240 hc247
                        have t255 := fI_of hc247 p253
                        have z256 := any_r x243
                        exact ih127 x123 x243 _ hO240 (hu136.tr hu240) (by omega) (by omega)
                      · refine ur_ldI rfl rfl ?_
                        refine ur_svIk [some (.inr (.inr (some 69))), some (.inl a1), some (.inl a2), some (.inl a3), some (.inl a4), some (.inl a5), some (.inl x124), some (.inl x12), some (.inl f112), some (.inl x124)] rfl rfl ?_
                        refine ur_incV (fun z => [some (.inr (.inr (some 69))), some (.inl a1), some (.inl a2), some (.inl a3), some (.inl a4), some (.inl a5), some (.inl x124), some (.inl x12), some (.inl f112), some (.inl z)]) rfl rfl (fun _ => rfl) (fun x257 e258 => ?_)
                        have t259 := ti_add e258 (by omega) (by omega)
                        refine ur_go rfl ?_
                        obtain ⟨fs260, hc261⟩ := hO240.mod
                        obtain ⟨f262, p263, t264⟩ := mf_4 hO240 hc261
                        have t265 := fI_of hc261 p263
                        obtain ⟨f266, p267, t268⟩ := mf_38 hO240 hc261
                        have t269 := fI_of hc261 p267
                        have z270 := any_r x257
                        exact ih127 x124 x257 _ hO240 (hu136.tr hu240) (by omega) (by omega)
            have z271 := any_r x11
            exact L125 _ x11 f116 _ hO105 un.rf (by omega) (Nat.lt_succ_self _)
          · have t272 := le_no c121
            refine ur_ldI rfl rfl ?_
            refine ur_go rfl ?_
            refine ur_svIk [some (.inr (.inr (some 69))), some (.inl a1), some (.inl a2), some (.inl a3), some (.inl a4), some (.inl a5), some (.inl x11), some (.inl x12), some (.inl f112), some (.inl a5)] rfl rfl ?_
            obtain ⟨f278, p279, t280⟩ := mf_4 hO105 hc111
            have t281 := fI_of hc111 p279
            obtain ⟨f282, p283, t284⟩ := mf_38 hO105 hc111
            have t285 := fI_of hc111 p283
            have L275 : ∀ (m276 : Nat) (x273 : Int32) (x274 : Int32) (h286 : aH) , OK h286 → un [] h105 h286 → ((-1 ≤ x273.toInt ∧ x273.toInt ≤ 999999) ∧ (0 ≤ x274.toInt ∧ x274.toInt ≤ 1020000)) → ((1020001 - x274.toInt).toNat) < m276 → uRun oX12_fitDay (uCall Mt (d + 6)) Q 58 ([some (.inr (.inr (some 69))), some (.inl a1), some (.inl a2), some (.inl a3), some (.inl a4), some (.inl a5), some (.inl x273), some (.inl x12), some (.inl f112), some (.inl x274)], [], h286, kc, ks) := by
              intro m276
              induction m276 with
              | zero => intro x273 x274 h286 hO286 hu286 iv287 mm288; omega
              | succ m276 ih277 =>
                intro x273 x274 h286 hO286 hu286 iv287 mm288
                refine ur_ldI rfl rfl ?_
                refine ur_ldI rfl rfl ?_
                have z289 := any_r x274
                have z290 := any_r f112
                refine ur_if2 rfl (fun c291 => ?_) (fun c291 => ?_)
                · have t292 := lt_to c291
                  refine ur_incV (fun z => [some (.inr (.inr (some 69))), some (.inl a1), some (.inl a2), some (.inl a3), some (.inl a4), some (.inl a5), some (.inl x273), some (.inl z), some (.inl f112), some (.inl x274)]) rfl rfl (fun _ => rfl) (fun x293 e294 => ?_)
                  have t295 := ti_add e294 (by omega) (by omega)
                  refine ur_go rfl ?_
                  obtain ⟨fs296, hc297⟩ := hO286.mod
                  obtain ⟨f298, p299, t300⟩ := mf_4 hO286 hc297
                  have t301 := fI_of hc297 p299
                  obtain ⟨f302, p303, t304⟩ := mf_38 hO286 hc297
                  have t305 := fI_of hc297 p303
                  have z306 := any_r x273
                  have z307 := any_r x293
                  exact ih17 x273 x293 _ _ _ hO286 (hu18.tr (hu105.tr hu286)) (by omega) (by omega)
                · have t308 := lt_no c291
                  refine ur_ldI rfl rfl ?_
                  refine ur_if1 rfl (fun c309 => ?_) (fun c309 => ?_)
                  · have t310 := lt_to c309
                    refine ur_ldA rfl rfl ?_
                    refine ur_ldI rfl rfl ?_
                    refine ur_ldI rfl rfl ?_
                    refine ur_ldI rfl rfl ?_
                    refine ur_ldI rfl rfl ?_
                    obtain ⟨fs311, hc312⟩ := hO286.mod
                    obtain ⟨f313, p314, t315⟩ := mf_4 hO286 hc312
                    have t316 := fI_of hc312 p314
                    obtain ⟨f317, p318, t319⟩ := mf_38 hO286 hc312
                    have t320 := fI_of hc312 p318
                    have t321 := fI_keep (k := 4) hO0 hO286 (hu18.tr (hu105.tr hu286)) rfl (by decide)
                    have t322 := fI_keep (k := 38) hO0 hO286 (hu18.tr (hu105.tr hu286)) rfl (by decide)
                    refine ur_inl rfl (rcv_of hc312) (Nat.le_of_ble_eq_true rfl) (Nat.le_of_ble_eq_true rfl) (sf_X12_fitsOn hO286 (hX0.un hO0 hO286 (hu18.tr (hu105.tr hu286)) (by decide)) _ (by show 0 ≤ a1.toInt ∧ a1.toInt ≤ 149; omega) _ (by show 0 ≤ a2.toInt ∧ a2.toInt ≤ 11; omega) _ (by show -20000 ≤ a3.toInt ∧ a3.toInt ≤ 1020000; omega) _ (by omega) (by omega) (fun w323 h325 hr324 hO325 hv325 => ?_))
                    have hu325 := hv325
                    obtain ⟨b326, rfl⟩ := hr324
                    show uRun _ (uCall Mt _) _ 86 (_, [(.inl (bi b326))], _, _, _)
                    refine ur_eqB rfl (fun c327 => ?_) (fun c327 => ?_)
                    · refine ur_incV (fun z => [some (.inr (.inr (some 69))), some (.inl a1), some (.inl a2), some (.inl a3), some (.inl a4), some (.inl a5), some (.inl x273), some (.inl x12), some (.inl f112), some (.inl z)]) rfl rfl (fun _ => rfl) (fun x328 e329 => ?_)
                      have t330 := ti_add e329 (by omega) (by omega)
                      refine ur_go rfl ?_
                      obtain ⟨fs331, hc332⟩ := hO325.mod
                      obtain ⟨f333, p334, t335⟩ := mf_4 hO325 hc332
                      have t336 := fI_of hc332 p334
                      obtain ⟨f337, p338, t339⟩ := mf_38 hO325 hc332
                      have t340 := fI_of hc332 p338
                      have z341 := any_r x273
                      have z342 := any_r x328
                      exact ih277 x273 x328 _ hO325 (hu286.tr hu325) (by omega) (by omega)
                    · refine ur_ldI rfl rfl ?_
                      refine ur_svIk [some (.inr (.inr (some 69))), some (.inl a1), some (.inl a2), some (.inl a3), some (.inl a4), some (.inl a5), some (.inl x274), some (.inl x12), some (.inl f112), some (.inl x274)] rfl rfl ?_
                      refine ur_incV (fun z => [some (.inr (.inr (some 69))), some (.inl a1), some (.inl a2), some (.inl a3), some (.inl a4), some (.inl a5), some (.inl x274), some (.inl x12), some (.inl f112), some (.inl z)]) rfl rfl (fun _ => rfl) (fun x343 e344 => ?_)
                      have t345 := ti_add e344 (by omega) (by omega)
                      refine ur_go rfl ?_
                      obtain ⟨fs346, hc347⟩ := hO325.mod
                      obtain ⟨f348, p349, t350⟩ := mf_4 hO325 hc347
                      have t351 := fI_of hc347 p349
                      obtain ⟨f352, p353, t354⟩ := mf_38 hO325 hc347
                      have t355 := fI_of hc347 p353
                      have z356 := any_r x343
                      exact ih277 x274 x343 _ hO325 (hu286.tr hu325) (by omega) (by omega)
                  · have t357 := lt_no c309
                    refine ur_ldI rfl rfl ?_
                    refine ur_ldI rfl rfl ?_
                    have z358 := any_r x273
                    refine ur_if2 rfl (fun c359 => ?_) (fun c359 => ?_)
                    · have t360 := le_to c359
                      refine ur_incV (fun z => [some (.inr (.inr (some 69))), some (.inl a1), some (.inl a2), some (.inl a3), some (.inl a4), some (.inl a5), some (.inl x273), some (.inl z), some (.inl f112), some (.inl x274)]) rfl rfl (fun _ => rfl) (fun x361 e362 => ?_)
                      have t363 := ti_add e362 (by omega) (by omega)
                      refine ur_go rfl ?_
                      obtain ⟨fs364, hc365⟩ := hO286.mod
                      obtain ⟨f366, p367, t368⟩ := mf_4 hO286 hc365
                      have t369 := fI_of hc365 p367
                      obtain ⟨f370, p371, t372⟩ := mf_38 hO286 hc365
                      have t373 := fI_of hc365 p371
                      have z374 := any_r x361
                      exact ih17 x273 x361 _ _ _ hO286 (hu18.tr (hu105.tr hu286)) (by omega) (by omega)
                    · have t375 := le_no c359
                      refine ur_ldA rfl rfl ?_
                      refine ur_ldI rfl rfl ?_
                      refine ur_ldI rfl rfl ?_
                      refine ur_ldI rfl rfl ?_
                      refine ur_ldI rfl rfl ?_
                      obtain ⟨fs376, hc377⟩ := hO286.mod
                      obtain ⟨f378, p379, t380⟩ := mf_4 hO286 hc377
                      have t381 := fI_of hc377 p379
                      obtain ⟨f382, p383, t384⟩ := mf_38 hO286 hc377
                      have t385 := fI_of hc377 p383
                      have t386 := fI_keep (k := 4) hO0 hO286 (hu18.tr (hu105.tr hu286)) rfl (by decide)
                      have t387 := fI_keep (k := 38) hO0 hO286 (hu18.tr (hu105.tr hu286)) rfl (by decide)
                      refine ur_inl rfl (rcv_of hc377) (Nat.le_of_ble_eq_true rfl) (Nat.le_of_ble_eq_true rfl) (sf_X12_fitsOn hO286 (hX0.un hO0 hO286 (hu18.tr (hu105.tr hu286)) (by decide)) _ (by show 0 ≤ a1.toInt ∧ a1.toInt ≤ 149; omega) _ (by show 0 ≤ a2.toInt ∧ a2.toInt ≤ 11; omega) _ (by show -20000 ≤ a3.toInt ∧ a3.toInt ≤ 1020000; omega) _ (by omega) (by omega) (fun w388 h390 hr389 hO390 hv390 => ?_))
                      have hu390 := hv390
                      obtain ⟨b391, rfl⟩ := hr389
                      show uRun _ (uCall Mt _) _ 86 (_, [(.inl (bi b391))], _, _, _)
                      refine ur_eqB rfl (fun c392 => ?_) (fun c392 => ?_)
                      · refine ur_incV (fun z => [some (.inr (.inr (some 69))), some (.inl a1), some (.inl a2), some (.inl a3), some (.inl a4), some (.inl a5), some (.inl x273), some (.inl x12), some (.inl f112), some (.inl z)]) rfl rfl (fun _ => rfl) (fun x393 e394 => ?_)
                        have t395 := ti_add e394 (by omega) (by omega)
                        refine ur_go rfl ?_
                        obtain ⟨fs396, hc397⟩ := hO390.mod
                        obtain ⟨f398, p399, t400⟩ := mf_4 hO390 hc397
                        have t401 := fI_of hc397 p399
                        obtain ⟨f402, p403, t404⟩ := mf_38 hO390 hc397
                        have t405 := fI_of hc397 p403
                        have z406 := any_r x393
                        exact ih277 x273 x393 _ hO390 (hu286.tr hu390) (by omega) (by omega)
                      · refine ur_ldI rfl rfl ?_
                        refine ur_svIk [some (.inr (.inr (some 69))), some (.inl a1), some (.inl a2), some (.inl a3), some (.inl a4), some (.inl a5), some (.inl x274), some (.inl x12), some (.inl f112), some (.inl x274)] rfl rfl ?_
                        refine ur_incV (fun z => [some (.inr (.inr (some 69))), some (.inl a1), some (.inl a2), some (.inl a3), some (.inl a4), some (.inl a5), some (.inl x274), some (.inl x12), some (.inl f112), some (.inl z)]) rfl rfl (fun _ => rfl) (fun x407 e408 => ?_)
                        have t409 := ti_add e408 (by omega) (by omega)
                        refine ur_go rfl ?_
                        obtain ⟨fs410, hc411⟩ := hO390.mod
                        obtain ⟨f412, p413, t414⟩ := mf_4 hO390 hc411
                        have t415 := fI_of hc411 p413
                        obtain ⟨f416, p417, t418⟩ := mf_38 hO390 hc411
                        have t419 := fI_of hc411 p417
                        have z420 := any_r x407
                        exact ih277 x274 x407 _ hO390 (hu286.tr hu390) (by omega) (by omega)
            have z421 := any_r x11
            exact L275 _ x11 a5 _ hO105 un.rf (by omega) (Nat.lt_succ_self _)
        · refine ur_go rfl ?_
          refine ur_incV (fun z => [some (.inr (.inr (some 69))), some (.inl a1), some (.inl a2), some (.inl a3), some (.inl a4), some (.inl a5), some (.inl x11), some (.inl z), u13, u14]) rfl rfl (fun _ => rfl) (fun x422 e423 => ?_)
          have t424 := ti_add e423 (by omega) (by omega)
          refine ur_go rfl ?_
          obtain ⟨fs425, hc426⟩ := hO105.mod
          obtain ⟨f427, p428, t429⟩ := mf_4 hO105 hc426
          have t430 := fI_of hc426 p428
          obtain ⟨f431, p432, t433⟩ := mf_38 hO105 hc426
          have t434 := fI_of hc426 p432
          have z435 := any_r x11
          have z436 := any_r x422
          exact ih17 x11 x422 _ _ _ hO105 (hu18.tr hu105) (by omega) (by omega)
  exact L15 _ (-1) 0 (none) (none) _ hO0 un.rf (by omega) (Nat.lt_succ_self _)
end CT7
