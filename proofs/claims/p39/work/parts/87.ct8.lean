/-! CONTRACTS of the reference, the fifth part, printed by program -/
section CT8
set_option maxRecDepth 20000 in
set_option maxHeartbeats 4000000 in
theorem sf_X12_fits {d kc ks : Nat} {h0 : aH} {Q : Option aV → aH → Prop} (hO0 : OK h0) (hX0 : SX h0) (a1 : Int32) (a2 : Int32) (a3 : Int32) (hQ : ∀ r h', (∃ x, r = some (.inl x)) → OK h' → un [80, 81] h0 h' → Q r h') : uCall Mt (d + 8) 252 [(.inr (.inr (some 69))), (.inl a1), (.inl a2), (.inl a3)] h0 kc ks Q := by
  have l_m60 : ((-60) : Int32).toInt = -60 := by decide
  have l_m2 : ((-2) : Int32).toInt = -2 := by decide
  have l_m1 : ((-1) : Int32).toInt = -1 := by decide
  have l_0 : ((0) : Int32).toInt = 0 := by decide
  have l_60 : ((60) : Int32).toInt = 60 := by decide
  refine uc_ink [some (.inr (.inr (some 69))), some (.inl a1), some (.inl a2), some (.inl a3), none, none] mt_252 (Nat.le_of_ble_eq_true rfl) rfl ?_
  obtain ⟨fs1, hc2⟩ := hO0.mod
  obtain ⟨f3, p4, t5⟩ := mf_4 hO0 hc2
  have t6 := fI_of hc2 p4
  obtain ⟨f7, p8, t9⟩ := mf_38 hO0 hc2
  have t10 := fI_of hc2 p8
  refine ur_ldA rfl rfl ?_
  refine ur_ldI rfl rfl ?_
  refine ur_inl rfl (rcv_of hc2) (Nat.le_of_ble_eq_true rfl) (Nat.le_of_ble_eq_true rfl) (sg_isWord hO0 _ (fun w11 hr12 => ?_))
  obtain ⟨b13, rfl, t14⟩ := hr12
  show uRun _ (uCall Mt _) _ 5 (_, [(.inl (bi b13))], _, _, _)
  refine ur_eqB rfl (fun c15 => ?_) (fun c15 => ?_)
  · refine ur_push rfl ?_
    exact ur_ret rfl rfl (hQ _ _ ⟨_, rfl⟩ hO0 un.rf)
  · have t16 := t14 c15
    refine ur_ldA rfl rfl ?_
    refine ur_ldI rfl rfl ?_
    refine ur_inl rfl (rcv_of hc2) (Nat.le_of_ble_eq_true rfl) (Nat.le_of_ble_eq_true rfl) (sg_isComet hO0 _ (fun w17 hr18 => ?_))
    obtain ⟨b19, rfl, t20⟩ := hr18
    show uRun _ (uCall Mt _) _ 13 (_, [(.inl (bi b19))], _, _, _)
    refine ur_eqB rfl (fun c21 => ?_) (fun c21 => ?_)
    · refine ur_push rfl ?_
      exact ur_ret rfl rfl (hQ _ _ ⟨_, rfl⟩ hO0 un.rf)
    · have t22 := t20 c21
      refine ur_ldI rfl rfl ?_
      refine ur_callv rfl rfl (Nat.le_of_ble_eq_true rfl) (Nat.le_of_ble_eq_true rfl) rfl (sq_isRet _ _) ?_
      refine ur_neB rfl (fun c25 => ?_) (fun c25 => ?_)
      · have t26 := wi_toL c25 l_m60 l_60
        refine ur_ldA rfl rfl ?_
        refine ur_ldI rfl rfl ?_
        refine ur_ldI rfl rfl ?_
        refine ur_inl rfl (rcv_of hc2) (Nat.le_of_ble_eq_true rfl) (Nat.le_of_ble_eq_true rfl) (sf_X12_passOf hO0 hX0 _ (by show 0 ≤ a2.toInt ∧ a2.toInt ≤ 11; omega) _ (by show -60 ≤ a3.toInt ∧ a3.toInt ≤ 60; omega) (fun w27 h29 hr28 hO29 hv29 => ?_))
        have hu29 := hv29
        obtain ⟨x30, rfl, t31⟩ := hr28
        show uRun _ (uCall Mt _) _ 31 (_, [(.inl x30)], _, _, _)
        refine ur_svIk [some (.inr (.inr (some 69))), some (.inl a1), some (.inl a2), some (.inl a3), some (.inl x30), none] rfl rfl ?_
        refine ur_ldI rfl rfl ?_
        refine ur_if1 rfl (fun c32 => ?_) (fun c32 => ?_)
        · have t33 := le_to c32
          refine ur_ldA rfl rfl ?_
          refine ur_ldI rfl rfl ?_
          refine ur_ldI rfl rfl ?_
          refine ur_ldI rfl rfl ?_
          refine ur_push rfl ?_
          refine ur_push rfl ?_
          obtain ⟨fs34, hc35⟩ := hO29.mod
          obtain ⟨f36, p37, t38⟩ := mf_4 hO29 hc35
          have t39 := fI_of hc35 p37
          obtain ⟨f40, p41, t42⟩ := mf_38 hO29 hc35
          have t43 := fI_of hc35 p41
          have t44 := fI_keep (k := 4) hO0 hO29 hu29 rfl (by decide)
          have t45 := fI_keep (k := 38) hO0 hO29 hu29 rfl (by decide)
          refine ur_inl rfl (rcv_of hc35) (Nat.le_of_ble_eq_true rfl) (Nat.le_of_ble_eq_true rfl) (sf_X12_fitDay hO29 (hX0.un hO0 hO29 hu29 (by decide)) _ (by show 0 ≤ a1.toInt ∧ a1.toInt ≤ 149; omega) _ (by show 0 ≤ a2.toInt ∧ a2.toInt ≤ 11; omega) _ (by show -20000 ≤ x30.toInt ∧ x30.toInt ≤ 1020000; omega) _ (by show -400 ≤ (0 : Int32).toInt ∧ (0 : Int32).toInt ≤ 400; omega) _ (by show 0 ≤ (0 : Int32).toInt ∧ (0 : Int32).toInt ≤ 1020000; omega) (by omega) (by omega) (fun w46 h48 hr47 hO48 hv48 => ?_))
          have hu48 : un [80, 81] h29 h48 := hv48.mono (by decide)
          obtain ⟨x49, rfl, t50⟩ := hr47
          show uRun _ (uCall Mt _) _ 52 (_, [(.inl x49)], _, _, _)
          refine ur_svIk [some (.inr (.inr (some 69))), some (.inl a1), some (.inl a2), some (.inl a3), some (.inl x30), some (.inl x49)] rfl rfl ?_
          refine ur_ldI rfl rfl ?_
          refine ur_if1 rfl (fun c51 => ?_) (fun c51 => ?_)
          · have t52 := le_to c51
            refine ur_ldI rfl rfl ?_
            obtain ⟨fs53, hc54⟩ := hO48.mod
            obtain ⟨f55, p56, t57⟩ := mf_4 hO48 hc54
            have t58 := fI_of hc54 p56
            obtain ⟨f59, p60, t61⟩ := mf_38 hO48 hc54
            have t62 := fI_of hc54 p60
            have t63 := fI_keep (k := 4) hO0 hO48 (hu29.tr hu48) rfl (by decide)
            have t64 := fI_keep (k := 38) hO0 hO48 (hu29.tr hu48) rfl (by decide)
            exact ur_ret rfl rfl (hQ _ _ ⟨_, rfl⟩ hO48 (hu29.tr hu48))
          · have t65 := le_no c51
            refine ur_push rfl ?_
            refine ur_go rfl ?_
            obtain ⟨fs66, hc67⟩ := hO48.mod
            obtain ⟨f68, p69, t70⟩ := mf_4 hO48 hc67
            have t71 := fI_of hc67 p69
            obtain ⟨f72, p73, t74⟩ := mf_38 hO48 hc67
            have t75 := fI_of hc67 p73
            have t76 := fI_keep (k := 4) hO0 hO48 (hu29.tr hu48) rfl (by decide)
            have t77 := fI_keep (k := 38) hO0 hO48 (hu29.tr hu48) rfl (by decide)
            exact ur_ret rfl rfl (hQ _ _ ⟨_, rfl⟩ hO48 (hu29.tr hu48))
        · have t78 := le_no c32
          refine ur_push rfl ?_
          refine ur_go rfl ?_
          refine ur_svIk [some (.inr (.inr (some 69))), some (.inl a1), some (.inl a2), some (.inl a3), some (.inl x30), some (.inl (-1))] rfl rfl ?_
          refine ur_ldI rfl rfl ?_
          refine ur_if1f rfl (by decide) ?_
          refine ur_push rfl ?_
          refine ur_go rfl ?_
          obtain ⟨fs79, hc80⟩ := hO29.mod
          obtain ⟨f81, p82, t83⟩ := mf_4 hO29 hc80
          have t84 := fI_of hc80 p82
          obtain ⟨f85, p86, t87⟩ := mf_38 hO29 hc80
          have t88 := fI_of hc80 p86
          have t89 := fI_keep (k := 4) hO0 hO29 hu29 rfl (by decide)
          have t90 := fI_keep (k := 38) hO0 hO29 hu29 rfl (by decide)
          exact ur_ret rfl rfl (hQ _ _ ⟨_, rfl⟩ hO29 hu29)
      · have t91 := wi_noL c25 l_m60 l_60
        refine ur_push rfl ?_
        exact ur_ret rfl rfl (hQ _ _ ⟨_, rfl⟩ hO0 un.rf)

set_option maxRecDepth 20000 in
set_option maxHeartbeats 4000000 in
theorem sf_X12_perhaps {d kc ks : Nat} {h0 : aH} {Q : Option aV → aH → Prop} (hO0 : OK h0) (hX0 : SX h0) (a1 : Int32) (a2 : Int32) (a3 : Int32) (hQ : ∀ r h', (∃ x, r = some (.inl x)) → OK h' → un [80, 81] h0 h' → Q r h') : uCall Mt (d + 8) 253 [(.inr (.inr (some 69))), (.inl a1), (.inl a2), (.inl a3)] h0 kc ks Q := by
  have l_m2000000000 : ((-2000000000) : Int32).toInt = -2000000000 := by decide
  have l_m60 : ((-60) : Int32).toInt = -60 := by decide
  have l_m2 : ((-2) : Int32).toInt = -2 := by decide
  have l_0 : ((0) : Int32).toInt = 0 := by decide
  have l_1 : ((1) : Int32).toInt = 1 := by decide
  have l_20 : ((20) : Int32).toInt = 20 := by decide
  have l_60 : ((60) : Int32).toInt = 60 := by decide
  refine uc_ink [some (.inr (.inr (some 69))), some (.inl a1), some (.inl a2), some (.inl a3), none, none, none, none, none] mt_253 (Nat.le_of_ble_eq_true rfl) rfl ?_
  obtain ⟨fs1, hc2⟩ := hO0.mod
  obtain ⟨f3, p4, t5⟩ := mf_4 hO0 hc2
  have t6 := fI_of hc2 p4
  obtain ⟨f7, p8, t9⟩ := mf_38 hO0 hc2
  have t10 := fI_of hc2 p8
  refine ur_ldA rfl rfl ?_
  refine ur_ldI rfl rfl ?_
  refine ur_inl rfl (rcv_of hc2) (Nat.le_of_ble_eq_true rfl) (Nat.le_of_ble_eq_true rfl) (sg_isWord hO0 _ (fun w11 hr12 => ?_))
  obtain ⟨b13, rfl, t14⟩ := hr12
  show uRun _ (uCall Mt _) _ 5 (_, [(.inl (bi b13))], _, _, _)
  refine ur_eqB rfl (fun c15 => ?_) (fun c15 => ?_)
  · refine ur_push rfl ?_
    exact ur_ret rfl rfl (hQ _ _ ⟨_, rfl⟩ hO0 un.rf)
  · have t16 := t14 c15
    refine ur_ldA rfl rfl ?_
    refine ur_ldI rfl rfl ?_
    refine ur_inl rfl (rcv_of hc2) (Nat.le_of_ble_eq_true rfl) (Nat.le_of_ble_eq_true rfl) (sg_isComet hO0 _ (fun w17 hr18 => ?_))
    obtain ⟨b19, rfl, t20⟩ := hr18
    show uRun _ (uCall Mt _) _ 13 (_, [(.inl (bi b19))], _, _, _)
    refine ur_eqB rfl (fun c21 => ?_) (fun c21 => ?_)
    · refine ur_push rfl ?_
      exact ur_ret rfl rfl (hQ _ _ ⟨_, rfl⟩ hO0 un.rf)
    · have t22 := t20 c21
      refine ur_ldI rfl rfl ?_
      refine ur_callv rfl rfl (Nat.le_of_ble_eq_true rfl) (Nat.le_of_ble_eq_true rfl) rfl (sq_isRet _ _) ?_
      refine ur_neB rfl (fun c25 => ?_) (fun c25 => ?_)
      · have t26 := wi_toL c25 l_m60 l_60
        refine ur_ldA rfl rfl ?_
        refine ur_ldI rfl rfl ?_
        refine ur_ldI rfl rfl ?_
        refine ur_inl rfl (rcv_of hc2) (Nat.le_of_ble_eq_true rfl) (Nat.le_of_ble_eq_true rfl) (sf_X12_passOf hO0 hX0 _ (by show 0 ≤ a2.toInt ∧ a2.toInt ≤ 11; omega) _ (by show -60 ≤ a3.toInt ∧ a3.toInt ≤ 60; omega) (fun w27 h29 hr28 hO29 hv29 => ?_))
        have hu29 := hv29
        obtain ⟨x30, rfl, t31⟩ := hr28
        show uRun _ (uCall Mt _) _ 32 (_, [(.inl x30)], _, _, _)
        refine ur_svIk [some (.inr (.inr (some 69))), some (.inl a1), some (.inl a2), some (.inl a3), some (.inl x30), none, none, none, none] rfl rfl ?_
        refine ur_ldI rfl rfl ?_
        refine ur_if1 rfl (fun c32 => ?_) (fun c32 => ?_)
        · have t33 := le_to c32
          refine ur_ldA rfl rfl ?_
          refine ur_ldI rfl rfl ?_
          obtain ⟨fs34, hc35⟩ := hO29.mod
          have t36 := fI_keep (k := 4) hO0 hO29 hu29 rfl (by decide)
          have t37 := fI_keep (k := 38) hO0 hO29 hu29 rfl (by decide)
          refine ur_inl rfl (rcv_of hc35) (Nat.le_of_ble_eq_true rfl) (Nat.le_of_ble_eq_true rfl) (sf_X12_wideOf hO29 _ (by show -60 ≤ a3.toInt ∧ a3.toInt ≤ 60; omega) (fun w38 hr39 => ?_))
          obtain ⟨x40, rfl, t41⟩ := hr39
          show uRun _ (uCall Mt _) _ 47 (_, [(.inl x40)], _, _, _)
          refine ur_svIk [some (.inr (.inr (some 69))), some (.inl a1), some (.inl a2), some (.inl a3), some (.inl x30), some (.inl x40), none, none, none] rfl rfl ?_
          refine ur_push rfl ?_
          refine ur_ldI rfl rfl ?_
          refine ur_push rfl ?_
          refine ur_divV rfl (by decide) (fun x42 e43 => ?_)
          have z44 := any_r x40
          have t45 := ti_div e43 l_20 (by decide) (by omega)
          refine ur_binV rfl (fun x46 e47 => ?_)
          have z48 := any_r x42
          have t49 := ti_add e47 (by omega) (by omega)
          refine ur_svIk [some (.inr (.inr (some 69))), some (.inl a1), some (.inl a2), some (.inl a3), some (.inl x30), some (.inl x40), some (.inl x46), none, none] rfl rfl ?_
          refine ur_push rfl ?_
          refine ur_svIk [some (.inr (.inr (some 69))), some (.inl a1), some (.inl a2), some (.inl a3), some (.inl x30), some (.inl x40), some (.inl x46), some (.inl (-2000000000)), none] rfl rfl ?_
          refine ur_ldI rfl rfl ?_
          refine ur_unV rfl (fun x50 e51 => ?_)
          have t52 := ti_neg e51 (by omega)
          refine ur_svIk [some (.inr (.inr (some 69))), some (.inl a1), some (.inl a2), some (.inl a3), some (.inl x30), some (.inl x40), some (.inl x46), some (.inl (-2000000000)), some (.inl x50)] rfl rfl ?_
          obtain ⟨f58, p59, t60⟩ := mf_4 hO29 hc35
          have t61 := fI_of hc35 p59
          obtain ⟨f62, p63, t64⟩ := mf_38 hO29 hc35
          have t65 := fI_of hc35 p63
          have L55 : ∀ (m56 : Nat) (x53 : Int32) (x54 : Int32) (h66 : aH) , OK h66 → un [80, 81] h29 h66 → ((-14400 ≤ x54.toInt ∧ x54.toInt ≤ 15121)) → ((20000 - x54.toInt).toNat) < m56 → uRun oX12_perhaps (uCall Mt (d + 7)) Q 67 ([some (.inr (.inr (some 69))), some (.inl a1), some (.inl a2), some (.inl a3), some (.inl x30), some (.inl x40), some (.inl x46), some (.inl x53), some (.inl x54)], [], h66, kc, ks) := by
            intro m56
            induction m56 with
            | zero => intro x53 x54 h66 hO66 hu66 iv67 mm68; omega
            | succ m56 ih57 =>
              intro x53 x54 h66 hO66 hu66 iv67 mm68
              refine ur_ldI rfl rfl ?_
              refine ur_ldI rfl rfl ?_
              have z69 := any_r x54
              refine ur_if2 rfl (fun c70 => ?_) (fun c70 => ?_)
              · have t71 := lt_to c70
                refine ur_ldI rfl rfl ?_
                refine ur_push rfl ?_
                refine ur_if2 rfl (fun c72 => ?_) (fun c72 => ?_)
                · have t73 := ne_to c72
                  refine ur_ldI rfl rfl ?_
                  obtain ⟨fs74, hc75⟩ := hO66.mod
                  obtain ⟨f76, p77, t78⟩ := mf_4 hO66 hc75
                  have t79 := fI_of hc75 p77
                  obtain ⟨f80, p81, t82⟩ := mf_38 hO66 hc75
                  have t83 := fI_of hc75 p81
                  have t84 := fI_keep (k := 4) hO0 hO66 (hu29.tr hu66) rfl (by decide)
                  have t85 := fI_keep (k := 38) hO0 hO66 (hu29.tr hu66) rfl (by decide)
                  exact ur_ret rfl rfl (hQ _ _ ⟨_, rfl⟩ hO66 (hu29.tr hu66))
                · have t86 := ne_no c72
                  refine ur_push rfl ?_
                  refine ur_go rfl ?_
                  obtain ⟨fs87, hc88⟩ := hO66.mod
                  obtain ⟨f89, p90, t91⟩ := mf_4 hO66 hc88
                  have t92 := fI_of hc88 p90
                  obtain ⟨f93, p94, t95⟩ := mf_38 hO66 hc88
                  have t96 := fI_of hc88 p94
                  have t97 := fI_keep (k := 4) hO0 hO66 (hu29.tr hu66) rfl (by decide)
                  have t98 := fI_keep (k := 38) hO0 hO66 (hu29.tr hu66) rfl (by decide)
                  exact ur_ret rfl rfl (hQ _ _ ⟨_, rfl⟩ hO66 (hu29.tr hu66))
              · have t99 := lt_no c70
                refine ur_ldI rfl rfl ?_
                refine ur_push rfl ?_
                refine ur_if2 rfl (fun c100 => ?_) (fun c100 => ?_)
                · have t101 := eq_to c100
                  refine ur_ldA rfl rfl ?_
                  refine ur_ldI rfl rfl ?_
                  refine ur_ldI rfl rfl ?_
                  refine ur_ldI rfl rfl ?_
                  refine ur_ldI rfl rfl ?_
                  refine ur_binV rfl (fun x102 e103 => ?_)
                  have z104 := any_r x30
                  have t105 := ti_add e103 (by omega) (by omega)
                  refine ur_push rfl ?_
                  refine ur_push rfl ?_
                  obtain ⟨fs106, hc107⟩ := hO66.mod
                  obtain ⟨f108, p109, t110⟩ := mf_4 hO66 hc107
                  have t111 := fI_of hc107 p109
                  obtain ⟨f112, p113, t114⟩ := mf_38 hO66 hc107
                  have t115 := fI_of hc107 p113
                  have t116 := fI_keep (k := 4) hO0 hO66 (hu29.tr hu66) rfl (by decide)
                  have t117 := fI_keep (k := 38) hO0 hO66 (hu29.tr hu66) rfl (by decide)
                  refine ur_inl rfl (rcv_of hc107) (Nat.le_of_ble_eq_true rfl) (Nat.le_of_ble_eq_true rfl) (sf_X12_fitDay hO66 (hX0.un hO0 hO66 (hu29.tr hu66) (by decide)) _ (by show 0 ≤ a1.toInt ∧ a1.toInt ≤ 149; omega) _ (by show 0 ≤ a2.toInt ∧ a2.toInt ≤ 11; omega) _ (by show -20000 ≤ x102.toInt ∧ x102.toInt ≤ 1020000; omega) _ (by show -400 ≤ (0 : Int32).toInt ∧ (0 : Int32).toInt ≤ 400; omega) _ (by show 0 ≤ (0 : Int32).toInt ∧ (0 : Int32).toInt ≤ 1020000; omega) (by omega) (by omega) (fun w118 h120 hr119 hO120 hv120 => ?_))
                  have hu120 : un [80, 81] h66 h120 := hv120.mono (by decide)
                  obtain ⟨x121, rfl, t122⟩ := hr119
                  show uRun _ (uCall Mt _) _ 110 (_, [(.inl x121)], _, _, _)
                  refine ur_if1 rfl (fun c123 => ?_) (fun c123 => ?_)
                  · have t124 := lt_to c123
                    refine ur_ldI rfl rfl ?_
                    refine ur_ldI rfl rfl ?_
                    refine ur_binV rfl (fun x125 e126 => ?_)
                    have z127 := any_r x46
                    have t128 := ti_add e126 (by omega) (by omega)
                    refine ur_svIk [some (.inr (.inr (some 69))), some (.inl a1), some (.inl a2), some (.inl a3), some (.inl x30), some (.inl x40), some (.inl x46), some (.inl x53), some (.inl x125)] rfl rfl ?_
                    refine ur_go rfl ?_
                    obtain ⟨fs129, hc130⟩ := hO120.mod
                    obtain ⟨f131, p132, t133⟩ := mf_4 hO120 hc130
                    have t134 := fI_of hc130 p132
                    obtain ⟨f135, p136, t137⟩ := mf_38 hO120 hc130
                    have t138 := fI_of hc130 p136
                    have z139 := any_r x125
                    exact ih57 x53 x125 _ hO120 (hu66.tr hu120) (by omega) (by omega)
                  · have t140 := lt_no c123
                    refine ur_ldI rfl rfl ?_
                    refine ur_svIk [some (.inr (.inr (some 69))), some (.inl a1), some (.inl a2), some (.inl a3), some (.inl x30), some (.inl x40), some (.inl x46), some (.inl x54), some (.inl x54)] rfl rfl ?_
                    refine ur_ldI rfl rfl ?_
                    refine ur_ldI rfl rfl ?_
                    refine ur_binV rfl (fun x141 e142 => ?_)
                    have z143 := any_r x46
                    have t144 := ti_add e142 (by omega) (by omega)
                    refine ur_svIk [some (.inr (.inr (some 69))), some (.inl a1), some (.inl a2), some (.inl a3), some (.inl x30), some (.inl x40), some (.inl x46), some (.inl x54), some (.inl x141)] rfl rfl ?_
                    refine ur_go rfl ?_
                    obtain ⟨fs145, hc146⟩ := hO120.mod
                    obtain ⟨f147, p148, t149⟩ := mf_4 hO120 hc146
                    have t150 := fI_of hc146 p148
                    obtain ⟨f151, p152, t153⟩ := mf_38 hO120 hc146
                    have t154 := fI_of hc146 p152
                    have z155 := any_r x141
                    exact ih57 x54 x141 _ hO120 (hu66.tr hu120) (by omega) (by omega)
                · have t156 := eq_no c100
                  refine ur_ldI rfl rfl ?_
                  have t157 := fI_keep (k := 4) hO0 hO66 (hu29.tr hu66) rfl (by decide)
                  have t158 := fI_keep (k := 38) hO0 hO66 (hu29.tr hu66) rfl (by decide)
                  refine ur_inl rfl rfl (Nat.le_of_ble_eq_true rfl) (Nat.le_of_ble_eq_true rfl) (sf_X12_sizeOf _ (fun w159 hr160 => ?_))
                  obtain ⟨x161, rfl, t162⟩ := hr160
                  show uRun _ (uCall Mt _) _ 86 (_, [(.inl x161)], _, _, _)
                  refine ur_ldI rfl rfl ?_
                  refine ur_inl rfl rfl (Nat.le_of_ble_eq_true rfl) (Nat.le_of_ble_eq_true rfl) (sf_X12_sizeOf _ (fun w163 hr164 => ?_))
                  obtain ⟨x165, rfl, t166⟩ := hr164
                  show uRun _ (uCall Mt _) _ 91 (_, [(.inl x165), (.inl x161)], _, _, _)
                  have z167 := any_r x161
                  have z168 := any_r x165
                  refine ur_if2 rfl (fun c169 => ?_) (fun c169 => ?_)
                  · have t170 := lt_to c169
                    refine ur_ldA rfl rfl ?_
                    refine ur_ldI rfl rfl ?_
                    refine ur_ldI rfl rfl ?_
                    refine ur_ldI rfl rfl ?_
                    refine ur_ldI rfl rfl ?_
                    refine ur_binV rfl (fun x171 e172 => ?_)
                    have z173 := any_r x30
                    have t174 := ti_add e172 (by omega) (by omega)
                    refine ur_push rfl ?_
                    refine ur_push rfl ?_
                    obtain ⟨fs175, hc176⟩ := hO66.mod
                    obtain ⟨f177, p178, t179⟩ := mf_4 hO66 hc176
                    have t180 := fI_of hc176 p178
                    obtain ⟨f181, p182, t183⟩ := mf_38 hO66 hc176
                    have t184 := fI_of hc176 p182
                    refine ur_inl rfl (rcv_of hc176) (Nat.le_of_ble_eq_true rfl) (Nat.le_of_ble_eq_true rfl) (sf_X12_fitDay hO66 (hX0.un hO0 hO66 (hu29.tr hu66) (by decide)) _ (by show 0 ≤ a1.toInt ∧ a1.toInt ≤ 149; omega) _ (by show 0 ≤ a2.toInt ∧ a2.toInt ≤ 11; omega) _ (by show -20000 ≤ x171.toInt ∧ x171.toInt ≤ 1020000; omega) _ (by show -400 ≤ (0 : Int32).toInt ∧ (0 : Int32).toInt ≤ 400; omega) _ (by show 0 ≤ (0 : Int32).toInt ∧ (0 : Int32).toInt ≤ 1020000; omega) (by omega) (by omega) (fun w185 h187 hr186 hO187 hv187 => ?_))
                    have hu187 : un [80, 81] h66 h187 := hv187.mono (by decide)
                    obtain ⟨x188, rfl, t189⟩ := hr186
                    show uRun _ (uCall Mt _) _ 110 (_, [(.inl x188)], _, _, _)
                    refine ur_if1 rfl (fun c190 => ?_) (fun c190 => ?_)
                    · have t191 := lt_to c190
                      refine ur_ldI rfl rfl ?_
                      refine ur_ldI rfl rfl ?_
                      refine ur_binV rfl (fun x192 e193 => ?_)
                      have z194 := any_r x46
                      have t195 := ti_add e193 (by omega) (by omega)
                      refine ur_svIk [some (.inr (.inr (some 69))), some (.inl a1), some (.inl a2), some (.inl a3), some (.inl x30), some (.inl x40), some (.inl x46), some (.inl x53), some (.inl x192)] rfl rfl ?_
                      refine ur_go rfl ?_
                      obtain ⟨fs196, hc197⟩ := hO187.mod
                      obtain ⟨f198, p199, t200⟩ := mf_4 hO187 hc197
                      have t201 := fI_of hc197 p199
                      obtain ⟨f202, p203, t204⟩ := mf_38 hO187 hc197
                      have t205 := fI_of hc197 p203
                      have z206 := any_r x192
                      exact ih57 x53 x192 _ hO187 (hu66.tr hu187) (by omega) (by omega)
                    · have t207 := lt_no c190
                      refine ur_ldI rfl rfl ?_
                      refine ur_svIk [some (.inr (.inr (some 69))), some (.inl a1), some (.inl a2), some (.inl a3), some (.inl x30), some (.inl x40), some (.inl x46), some (.inl x54), some (.inl x54)] rfl rfl ?_
                      refine ur_ldI rfl rfl ?_
                      refine ur_ldI rfl rfl ?_
                      refine ur_binV rfl (fun x208 e209 => ?_)
                      have z210 := any_r x46
                      have t211 := ti_add e209 (by omega) (by omega)
                      refine ur_svIk [some (.inr (.inr (some 69))), some (.inl a1), some (.inl a2), some (.inl a3), some (.inl x30), some (.inl x40), some (.inl x46), some (.inl x54), some (.inl x208)] rfl rfl ?_
                      refine ur_go rfl ?_
                      obtain ⟨fs212, hc213⟩ := hO187.mod
                      obtain ⟨f214, p215, t216⟩ := mf_4 hO187 hc213
                      have t217 := fI_of hc213 p215
                      obtain ⟨f218, p219, t220⟩ := mf_38 hO187 hc213
                      have t221 := fI_of hc213 p219
                      have z222 := any_r x208
                      exact ih57 x54 x208 _ hO187 (hu66.tr hu187) (by omega) (by omega)
                  · have t223 := lt_no c169
                    refine ur_go rfl ?_
                    refine ur_ldI rfl rfl ?_
                    refine ur_ldI rfl rfl ?_
                    refine ur_binV rfl (fun x224 e225 => ?_)
                    have z226 := any_r x46
                    have t227 := ti_add e225 (by omega) (by omega)
                    refine ur_svIk [some (.inr (.inr (some 69))), some (.inl a1), some (.inl a2), some (.inl a3), some (.inl x30), some (.inl x40), some (.inl x46), some (.inl x53), some (.inl x224)] rfl rfl ?_
                    refine ur_go rfl ?_
                    obtain ⟨fs228, hc229⟩ := hO66.mod
                    obtain ⟨f230, p231, t232⟩ := mf_4 hO66 hc229
                    have t233 := fI_of hc229 p231
                    obtain ⟨f234, p235, t236⟩ := mf_38 hO66 hc229
                    have t237 := fI_of hc229 p235
                    have z238 := any_r x224
                    exact ih57 x53 x224 _ hO66 hu66 (by omega) (by omega)
          have z239 := any_r x50
          exact L55 _ (-2000000000) x50 _ hO29 un.rf (by omega) (Nat.lt_succ_self _)
        · have t240 := le_no c32
          refine ur_push rfl ?_
          obtain ⟨fs241, hc242⟩ := hO29.mod
          obtain ⟨f243, p244, t245⟩ := mf_4 hO29 hc242
          have t246 := fI_of hc242 p244
          obtain ⟨f247, p248, t249⟩ := mf_38 hO29 hc242
          have t250 := fI_of hc242 p248
          have t251 := fI_keep (k := 4) hO0 hO29 hu29 rfl (by decide)
          have t252 := fI_keep (k := 38) hO0 hO29 hu29 rfl (by decide)
          exact ur_ret rfl rfl (hQ _ _ ⟨_, rfl⟩ hO29 hu29)
      · have t253 := wi_noL c25 l_m60 l_60
        refine ur_push rfl ?_
        exact ur_ret rfl rfl (hQ _ _ ⟨_, rfl⟩ hO0 un.rf)

set_option maxRecDepth 20000 in
set_option maxHeartbeats 4000000 in
theorem sf_X12_whoseBy {d kc ks : Nat} {h0 : aH} {Q : Option aV → aH → Prop} (hO0 : OK h0) (hX0 : SX h0) (a1 : Int32) (b1 : 0 ≤ a1.toInt ∧ a1.toInt ≤ 149) (a2 : Int32) (b2 : 0 ≤ a2.toInt ∧ a2.toInt ≤ 11) (a3 : Int32) (b3 : -400 ≤ a3.toInt ∧ a3.toInt ≤ 400) (pre0 : a1.toInt < fI h0 38) (pre1 : a2.toInt < fI h0 4) (hQ : ∀ r h', (∃ x : Int32, r = some (.inl x) ∧ -60 ≤ x.toInt ∧ x.toInt ≤ 61) → OK h' → un [80, 81] h0 h' → Q r h') : uCall Mt (d + 8) 254 [(.inr (.inr (some 69))), (.inl a1), (.inl a2), (.inl a3)] h0 kc ks Q := by
  have l_m60 : ((-60) : Int32).toInt = -60 := by decide
  have l_0 : ((0) : Int32).toInt = 0 := by decide
  have l_1 : ((1) : Int32).toInt = 1 := by decide
  have l_60 : ((60) : Int32).toInt = 60 := by decide
  have l_61 : ((61) : Int32).toInt = 61 := by decide
  refine uc_ink [some (.inr (.inr (some 69))), some (.inl a1), some (.inl a2), some (.inl a3), none, none] mt_254 (Nat.le_of_ble_eq_true rfl) rfl ?_
  obtain ⟨fs1, hc2⟩ := hO0.mod
  obtain ⟨f3, p4, t5⟩ := mf_4 hO0 hc2
  have t6 := fI_of hc2 p4
  obtain ⟨f7, p8, t9⟩ := mf_38 hO0 hc2
  have t10 := fI_of hc2 p8
  refine ur_push rfl ?_
  refine ur_svIk [some (.inr (.inr (some 69))), some (.inl a1), some (.inl a2), some (.inl a3), some (.inl (-60)), none] rfl rfl ?_
  have L13 : ∀ (m14 : Nat) (x11 : Int32) (u12 : Option aV) (h16 : aH) , OK h16 → un [80, 81] h0 h16 → ((-60 ≤ x11.toInt ∧ x11.toInt ≤ 61)) → ((62 - x11.toInt).toNat) < m14 → uRun oX12_whoseBy (uCall Mt (d + 7)) Q 4 ([some (.inr (.inr (some 69))), some (.inl a1), some (.inl a2), some (.inl a3), some (.inl x11), u12], [], h16, kc, ks) := by
    intro m14
    induction m14 with
    | zero => intro x11 u12 h16 hO16 hu16 iv17 mm18; omega
    | succ m14 ih15 =>
      intro x11 u12 h16 hO16 hu16 iv17 mm18
      refine ur_ldI rfl rfl ?_
      refine ur_push rfl ?_
      refine ur_if2 rfl (fun c19 => ?_) (fun c19 => ?_)
      · have t20 := lt_to c19
        refine ur_push rfl ?_
        obtain ⟨fs21, hc22⟩ := hO16.mod
        obtain ⟨f23, p24, t25⟩ := mf_4 hO16 hc22
        have t26 := fI_of hc22 p24
        obtain ⟨f27, p28, t29⟩ := mf_38 hO16 hc22
        have t30 := fI_of hc22 p28
        have t31 := fI_keep (k := 4) hO0 hO16 hu16 rfl (by decide)
        have t32 := fI_keep (k := 38) hO0 hO16 hu16 rfl (by decide)
        exact ur_ret rfl rfl (hQ _ _ ⟨_, rfl, by omega⟩ hO16 hu16)
      · have t33 := lt_no c19
        refine ur_ldA rfl rfl ?_
        refine ur_ldI rfl rfl ?_
        refine ur_ldI rfl rfl ?_
        obtain ⟨fs34, hc35⟩ := hO16.mod
        have t36 := fI_keep (k := 4) hO0 hO16 hu16 rfl (by decide)
        have t37 := fI_keep (k := 38) hO0 hO16 hu16 rfl (by decide)
        refine ur_inl rfl (rcv_of hc35) (Nat.le_of_ble_eq_true rfl) (Nat.le_of_ble_eq_true rfl) (sf_X12_passOf hO16 (hX0.un hO0 hO16 hu16 (by decide)) _ (by show 0 ≤ a2.toInt ∧ a2.toInt ≤ 11; omega) _ (by show -60 ≤ x11.toInt ∧ x11.toInt ≤ 60; omega) (fun w38 h40 hr39 hO40 hv40 => ?_))
        have hu40 := hv40
        obtain ⟨x41, rfl, t42⟩ := hr39
        show uRun _ (uCall Mt _) _ 18 (_, [(.inl x41)], _, _, _)
        refine ur_svIk [some (.inr (.inr (some 69))), some (.inl a1), some (.inl a2), some (.inl a3), some (.inl x11), some (.inl x41)] rfl rfl ?_
        refine ur_ldI rfl rfl ?_
        refine ur_if1 rfl (fun c43 => ?_) (fun c43 => ?_)
        · have t44 := lt_to c43
          refine ur_incV (fun z => [some (.inr (.inr (some 69))), some (.inl a1), some (.inl a2), some (.inl a3), some (.inl z), some (.inl x41)]) rfl rfl (fun _ => rfl) (fun x45 e46 => ?_)
          have z47 := any_r x11
          have t48 := ti_add e46 (by omega) (by omega)
          refine ur_go rfl ?_
          obtain ⟨fs49, hc50⟩ := hO40.mod
          obtain ⟨f51, p52, t53⟩ := mf_4 hO40 hc50
          have t54 := fI_of hc50 p52
          obtain ⟨f55, p56, t57⟩ := mf_38 hO40 hc50
          have t58 := fI_of hc50 p56
          have z59 := any_r x45
          exact ih15 x45 _ _ hO40 (hu16.tr hu40) (by omega) (by omega)
        · have t60 := lt_no c43
          refine ur_ldA rfl rfl ?_
          refine ur_ldI rfl rfl ?_
          refine ur_ldI rfl rfl ?_
          refine ur_ldI rfl rfl ?_
          refine ur_ldI rfl rfl ?_
          refine ur_push rfl ?_
          obtain ⟨fs61, hc62⟩ := hO40.mod
          obtain ⟨f63, p64, t65⟩ := mf_4 hO40 hc62
          have t66 := fI_of hc62 p64
          obtain ⟨f67, p68, t69⟩ := mf_38 hO40 hc62
          have t70 := fI_of hc62 p68
          have t71 := fI_keep (k := 4) hO0 hO40 (hu16.tr hu40) rfl (by decide)
          have t72 := fI_keep (k := 38) hO0 hO40 (hu16.tr hu40) rfl (by decide)
          refine ur_inl rfl (rcv_of hc62) (Nat.le_of_ble_eq_true rfl) (Nat.le_of_ble_eq_true rfl) (sf_X12_fitDay hO40 (hX0.un hO0 hO40 (hu16.tr hu40) (by decide)) _ (by show 0 ≤ a1.toInt ∧ a1.toInt ≤ 149; omega) _ (by show 0 ≤ a2.toInt ∧ a2.toInt ≤ 11; omega) _ (by show -20000 ≤ x41.toInt ∧ x41.toInt ≤ 1020000; omega) _ (by show -400 ≤ a3.toInt ∧ a3.toInt ≤ 400; omega) _ (by show 0 ≤ (0 : Int32).toInt ∧ (0 : Int32).toInt ≤ 1020000; omega) (by omega) (by omega) (fun w73 h75 hr74 hO75 hv75 => ?_))
          have hu75 : un [80, 81] h40 h75 := hv75.mono (by decide)
          obtain ⟨x76, rfl, t77⟩ := hr74
          show uRun _ (uCall Mt _) _ 35 (_, [(.inl x76)], _, _, _)
          refine ur_if1 rfl (fun c78 => ?_) (fun c78 => ?_)
          · have t79 := lt_to c78
            refine ur_incV (fun z => [some (.inr (.inr (some 69))), some (.inl a1), some (.inl a2), some (.inl a3), some (.inl z), some (.inl x41)]) rfl rfl (fun _ => rfl) (fun x80 e81 => ?_)
            have z82 := any_r x11
            have t83 := ti_add e81 (by omega) (by omega)
            refine ur_go rfl ?_
            obtain ⟨fs84, hc85⟩ := hO75.mod
            obtain ⟨f86, p87, t88⟩ := mf_4 hO75 hc85
            have t89 := fI_of hc85 p87
            obtain ⟨f90, p91, t92⟩ := mf_38 hO75 hc85
            have t93 := fI_of hc85 p91
            have z94 := any_r x80
            exact ih15 x80 _ _ hO75 (hu16.tr (hu40.tr hu75)) (by omega) (by omega)
          · have t95 := lt_no c78
            refine ur_ldI rfl rfl ?_
            obtain ⟨fs96, hc97⟩ := hO75.mod
            obtain ⟨f98, p99, t100⟩ := mf_4 hO75 hc97
            have t101 := fI_of hc97 p99
            obtain ⟨f102, p103, t104⟩ := mf_38 hO75 hc97
            have t105 := fI_of hc97 p103
            have t106 := fI_keep (k := 4) hO0 hO75 (hu16.tr (hu40.tr hu75)) rfl (by decide)
            have t107 := fI_keep (k := 38) hO0 hO75 (hu16.tr (hu40.tr hu75)) rfl (by decide)
            exact ur_ret rfl rfl (hQ _ _ ⟨_, rfl, by omega⟩ hO75 (hu16.tr (hu40.tr hu75)))
  exact L13 _ (-60) (none) _ hO0 un.rf (by omega) (Nat.lt_succ_self _)

set_option maxRecDepth 20000 in
set_option maxHeartbeats 4000000 in
theorem sf_X12_whose {d kc ks : Nat} {h0 : aH} {Q : Option aV → aH → Prop} (hO0 : OK h0) (hX0 : SX h0) (a1 : Int32) (a2 : Int32) (hQ : ∀ r h', (∃ x, r = some (.inl x)) → OK h' → un [80, 81] h0 h' → Q r h') : uCall Mt (d + 9) 255 [(.inr (.inr (some 69))), (.inl a1), (.inl a2)] h0 kc ks Q := by
  have l_m2000000000 : ((-2000000000) : Int32).toInt = -2000000000 := by decide
  have l_0 : ((0) : Int32).toInt = 0 := by decide
  have l_60 : ((60) : Int32).toInt = 60 := by decide
  refine uc_ink [some (.inr (.inr (some 69))), some (.inl a1), some (.inl a2), none] mt_255 (Nat.le_of_ble_eq_true rfl) rfl ?_
  obtain ⟨fs1, hc2⟩ := hO0.mod
  obtain ⟨f3, p4, t5⟩ := mf_4 hO0 hc2
  have t6 := fI_of hc2 p4
  obtain ⟨f7, p8, t9⟩ := mf_38 hO0 hc2
  have t10 := fI_of hc2 p8
  refine ur_ldA rfl rfl ?_
  refine ur_ldI rfl rfl ?_
  refine ur_inl rfl (rcv_of hc2) (Nat.le_of_ble_eq_true rfl) (Nat.le_of_ble_eq_true rfl) (sg_isWord hO0 _ (fun w11 hr12 => ?_))
  obtain ⟨b13, rfl, t14⟩ := hr12
  show uRun _ (uCall Mt _) _ 5 (_, [(.inl (bi b13))], _, _, _)
  refine ur_eqB rfl (fun c15 => ?_) (fun c15 => ?_)
  · refine ur_push rfl ?_
    exact ur_ret rfl rfl (hQ _ _ ⟨_, rfl⟩ hO0 un.rf)
  · have t16 := t14 c15
    refine ur_ldA rfl rfl ?_
    refine ur_ldI rfl rfl ?_
    refine ur_inl rfl (rcv_of hc2) (Nat.le_of_ble_eq_true rfl) (Nat.le_of_ble_eq_true rfl) (sg_isComet hO0 _ (fun w17 hr18 => ?_))
    obtain ⟨b19, rfl, t20⟩ := hr18
    show uRun _ (uCall Mt _) _ 13 (_, [(.inl (bi b19))], _, _, _)
    refine ur_neB rfl (fun c21 => ?_) (fun c21 => ?_)
    · have t22 := t20 c21
      refine ur_ldA rfl rfl ?_
      refine ur_ldI rfl rfl ?_
      refine ur_ldI rfl rfl ?_
      refine ur_push rfl ?_
      refine ur_inl rfl (rcv_of hc2) (Nat.le_of_ble_eq_true rfl) (Nat.le_of_ble_eq_true rfl) (sf_X12_whoseBy hO0 hX0 _ (by show 0 ≤ a1.toInt ∧ a1.toInt ≤ 149; omega) _ (by show 0 ≤ a2.toInt ∧ a2.toInt ≤ 11; omega) _ (by show -400 ≤ (0 : Int32).toInt ∧ (0 : Int32).toInt ≤ 400; omega) (by omega) (by omega) (fun w23 h25 hr24 hO25 hv25 => ?_))
      have hu25 := hv25
      obtain ⟨x26, rfl, t27⟩ := hr24
      show uRun _ (uCall Mt _) _ 26 (_, [(.inl x26)], _, _, _)
      refine ur_svIk [some (.inr (.inr (some 69))), some (.inl a1), some (.inl a2), some (.inl x26)] rfl rfl ?_
      refine ur_ldI rfl rfl ?_
      refine ur_push rfl ?_
      refine ur_if2 rfl (fun c28 => ?_) (fun c28 => ?_)
      · have t29 := le_to c28
        refine ur_ldI rfl rfl ?_
        obtain ⟨fs30, hc31⟩ := hO25.mod
        obtain ⟨f32, p33, t34⟩ := mf_4 hO25 hc31
        have t35 := fI_of hc31 p33
        obtain ⟨f36, p37, t38⟩ := mf_38 hO25 hc31
        have t39 := fI_of hc31 p37
        have t40 := fI_keep (k := 4) hO0 hO25 hu25 rfl (by decide)
        have t41 := fI_keep (k := 38) hO0 hO25 hu25 rfl (by decide)
        exact ur_ret rfl rfl (hQ _ _ ⟨_, rfl⟩ hO25 hu25)
      · have t42 := le_no c28
        refine ur_push rfl ?_
        refine ur_go rfl ?_
        obtain ⟨fs43, hc44⟩ := hO25.mod
        obtain ⟨f45, p46, t47⟩ := mf_4 hO25 hc44
        have t48 := fI_of hc44 p46
        obtain ⟨f49, p50, t51⟩ := mf_38 hO25 hc44
        have t52 := fI_of hc44 p50
        have t53 := fI_keep (k := 4) hO0 hO25 hu25 rfl (by decide)
        have t54 := fI_keep (k := 38) hO0 hO25 hu25 rfl (by decide)
        exact ur_ret rfl rfl (hQ _ _ ⟨_, rfl⟩ hO25 hu25)
    · refine ur_push rfl ?_
      exact ur_ret rfl rfl (hQ _ _ ⟨_, rfl⟩ hO0 un.rf)

set_option maxRecDepth 20000 in
set_option maxHeartbeats 4000000 in
theorem sf_X12_evening {d kc ks : Nat} {h0 : aH} {Q : Option aV → aH → Prop} (hO0 : OK h0) (hX0 : SX h0) (a1 : Int32) (a2 : Int32) (hQ : ∀ r h', (∃ x, r = some (.inl x)) → OK h' → un [] h0 h' → Q r h') : uCall Mt (d + 5) 256 [(.inr (.inr (some 69))), (.inl a1), (.inl a2)] h0 kc ks Q := by
  have l_m2 : ((-2) : Int32).toInt = -2 := by decide
  have l_m1 : ((-1) : Int32).toInt = -1 := by decide
  have l_0 : ((0) : Int32).toInt = 0 := by decide
  have l_1 : ((1) : Int32).toInt = 1 := by decide
  refine uc_ink [some (.inr (.inr (some 69))), some (.inl a1), some (.inl a2), none, none, none, none, none, none] mt_256 (Nat.le_of_ble_eq_true rfl) rfl ?_
  obtain ⟨fs1, hc2⟩ := hO0.mod
  obtain ⟨f3, p4, t5⟩ := mf_4 hO0 hc2
  have t6 := fI_of hc2 p4
  obtain ⟨f7, p8, t9⟩ := mf_38 hO0 hc2
  have t10 := fI_of hc2 p8
  refine ur_ldA rfl rfl ?_
  refine ur_ldI rfl rfl ?_
  refine ur_inl rfl (rcv_of hc2) (Nat.le_of_ble_eq_true rfl) (Nat.le_of_ble_eq_true rfl) (sg_isWord hO0 _ (fun w11 hr12 => ?_))
  obtain ⟨b13, rfl, t14⟩ := hr12
  show uRun _ (uCall Mt _) _ 5 (_, [(.inl (bi b13))], _, _, _)
  refine ur_eqB rfl (fun c15 => ?_) (fun c15 => ?_)
  · refine ur_push rfl ?_
    exact ur_ret rfl rfl (hQ _ _ ⟨_, rfl⟩ hO0 un.rf)
  · have t16 := t14 c15
    refine ur_ldA rfl rfl ?_
    refine ur_ldI rfl rfl ?_
    refine ur_inl rfl (rcv_of hc2) (Nat.le_of_ble_eq_true rfl) (Nat.le_of_ble_eq_true rfl) (sg_isWord hO0 _ (fun w17 hr18 => ?_))
    obtain ⟨b19, rfl, t20⟩ := hr18
    show uRun _ (uCall Mt _) _ 13 (_, [(.inl (bi b19))], _, _, _)
    refine ur_neB rfl (fun c21 => ?_) (fun c21 => ?_)
    · have t22 := t20 c21
      refine ur_push rfl ?_
      refine ur_svIk [some (.inr (.inr (some 69))), some (.inl a1), some (.inl a2), some (.inl (-2)), none, none, none, none, none] rfl rfl ?_
      refine ur_push rfl ?_
      refine ur_svIk [some (.inr (.inr (some 69))), some (.inl a1), some (.inl a2), some (.inl (-2)), some (.inl 0), none, none, none, none] rfl rfl ?_
      have L29 : ∀ (m30 : Nat) (x23 : Int32) (x24 : Int32) (u25 : Option aV) (u26 : Option aV) (u27 : Option aV) (u28 : Option aV) (h32 : aH) , OK h32 → un [] h0 h32 → ((0 ≤ x24.toInt ∧ x24.toInt ≤ 2147483647)) → ((2147483648 - x24.toInt).toNat) < m30 → uRun oX12_evening (uCall Mt (d + 4)) Q 24 ([some (.inr (.inr (some 69))), some (.inl a1), some (.inl a2), some (.inl x23), some (.inl x24), u25, u26, u27, u28], [], h32, kc, ks) := by
        intro m30
        induction m30 with
        | zero => intro x23 x24 u25 u26 u27 u28 h32 hO32 hu32 iv33 mm34; omega
        | succ m30 ih31 =>
          intro x23 x24 u25 u26 u27 u28 h32 hO32 hu32 iv33 mm34
          refine ur_ldI rfl rfl ?_
          refine ur_ldA rfl rfl ?_
          refine ur_ldI rfl rfl ?_
          obtain ⟨fs35, hc36⟩ := hO32.mod
          obtain ⟨f37, p38, t39⟩ := mf_38 hO32 hc36
          have t40 := fI_of hc36 p38
          have t41 := fI_keep (k := 4) hO0 hO32 hu32 rfl (by decide)
          have t42 := fI_keep (k := 38) hO0 hO32 hu32 rfl (by decide)
          refine ur_inl rfl (rcv_of hc36) (Nat.le_of_ble_eq_true rfl) (Nat.le_of_ble_eq_true rfl) (sf_X12_spansOf hO32 (hX0.un hO0 hO32 hu32 (by decide)) _ (by show 0 ≤ a1.toInt ∧ a1.toInt ≤ 149; omega) (by omega) (fun w43 hr44 => ?_))
          obtain ⟨x45, rfl⟩ := hr44
          show uRun _ (uCall Mt _) _ 31 (_, [(.inl x45), (.inl x24)], _, _, _)
          have z46 := any_r x24
          have z47 := any_r x45
          refine ur_if2 rfl (fun c48 => ?_) (fun c48 => ?_)
          · have t49 := le_to c48
            refine ur_ldI rfl rfl ?_
            obtain ⟨f50, p51, t52⟩ := mf_4 hO32 hc36
            have t53 := fI_of hc36 p51
            exact ur_ret rfl rfl (hQ _ _ ⟨_, rfl⟩ hO32 hu32)
          · have t54 := le_no c48
            refine ur_ldA rfl rfl ?_
            refine ur_ldI rfl rfl ?_
            refine ur_ldI rfl rfl ?_
            refine ur_push rfl ?_
            obtain ⟨f55, p56⟩ := mf_50 hO32 hc36
            have t57 := fI_of hc36 p56
            obtain ⟨f58, p59⟩ := mf_51 hO32 hc36
            have t60 := fI_of hc36 p59
            refine ur_inl rfl (rcv_of hc36) (Nat.le_of_ble_eq_true rfl) (Nat.le_of_ble_eq_true rfl) (sf_X12_findSpan hO32 (hX0.un hO0 hO32 hu32 (by decide)) _ (by show 0 ≤ a1.toInt ∧ a1.toInt ≤ 149; omega) _ _ (by show -400 ≤ (0 : Int32).toInt ∧ (0 : Int32).toInt ≤ 400; omega) (by omega) (fun w61 h63 hr62 hO63 hv63 => ?_))
            have hu63 := hv63
            obtain ⟨b64, rfl, t65⟩ := hr62
            show uRun _ (uCall Mt _) _ 42 (_, [(.inl (bi b64))], _, _, _)
            refine ur_neB rfl (fun c66 => ?_) (fun c66 => ?_)
            · have t67 := t65 c66
              refine ur_ldA rfl rfl ?_
              obtain ⟨fs68, hc69⟩ := hO63.mod
              obtain ⟨f70, p71⟩ := mf_50 hO63 hc69
              refine ur_get rfl hc69 p71 ?_
              refine ur_svIk [some (.inr (.inr (some 69))), some (.inl a1), some (.inl a2), some (.inl x23), some (.inl x24), some (.inl f70), u26, u27, u28] rfl rfl ?_
              refine ur_ldA rfl rfl ?_
              obtain ⟨f72, p73⟩ := mf_51 hO63 hc69
              refine ur_get rfl hc69 p73 ?_
              refine ur_svIk [some (.inr (.inr (some 69))), some (.inl a1), some (.inl a2), some (.inl x23), some (.inl x24), some (.inl f70), some (.inl f72), u27, u28] rfl rfl ?_
              refine ur_push rfl ?_
              refine ur_svIk [some (.inr (.inr (some 69))), some (.inl a1), some (.inl a2), some (.inl x23), some (.inl x24), some (.inl f70), some (.inl f72), some (.inl 0), u28] rfl rfl ?_
              obtain ⟨f80, p81, t82⟩ := mf_4 hO63 hc69
              have t83 := fI_of hc69 p81
              obtain ⟨f84, p85, t86⟩ := mf_38 hO63 hc69
              have t87 := fI_of hc69 p85
              have L77 : ∀ (m78 : Nat) (x74 : Int32) (x75 : Int32) (u76 : Option aV) (h88 : aH) , OK h88 → un [] h63 h88 → ((0 ≤ x75.toInt ∧ x75.toInt ≤ 2147483647)) → ((2147483648 - x75.toInt).toNat) < m78 → uRun oX12_evening (uCall Mt (d + 4)) Q 63 ([some (.inr (.inr (some 69))), some (.inl a1), some (.inl a2), some (.inl x74), some (.inl x24), some (.inl f70), some (.inl f72), some (.inl x75), u76], [], h88, kc, ks) := by
                intro m78
                induction m78 with
                | zero => intro x74 x75 u76 h88 hO88 hu88 iv89 mm90; omega
                | succ m78 ih79 =>
                  intro x74 x75 u76 h88 hO88 hu88 iv89 mm90
                  refine ur_ldI rfl rfl ?_
                  refine ur_ldA rfl rfl ?_
                  refine ur_ldI rfl rfl ?_
                  obtain ⟨fs91, hc92⟩ := hO88.mod
                  obtain ⟨f93, p94, t95⟩ := mf_38 hO88 hc92
                  have t96 := fI_of hc92 p94
                  have t97 := fI_keep (k := 4) hO0 hO88 (hu32.tr (hu63.tr hu88)) rfl (by decide)
                  have t98 := fI_keep (k := 38) hO0 hO88 (hu32.tr (hu63.tr hu88)) rfl (by decide)
                  refine ur_inl rfl (rcv_of hc92) (Nat.le_of_ble_eq_true rfl) (Nat.le_of_ble_eq_true rfl) (sf_X12_spansOf hO88 (hX0.un hO0 hO88 (hu32.tr (hu63.tr hu88)) (by decide)) _ (by show 0 ≤ a2.toInt ∧ a2.toInt ≤ 149; omega) (by omega) (fun w99 hr100 => ?_))
                  obtain ⟨x101, rfl⟩ := hr100
                  show uRun _ (uCall Mt _) _ 70 (_, [(.inl x101), (.inl x75)], _, _, _)
                  have z102 := any_r x75
                  have z103 := any_r x101
                  refine ur_if2 rfl (fun c104 => ?_) (fun c104 => ?_)
                  · have t105 := le_to c104
                    refine ur_incV (fun z => [some (.inr (.inr (some 69))), some (.inl a1), some (.inl a2), some (.inl x74), some (.inl z), some (.inl f70), some (.inl f72), some (.inl x75), u76]) rfl rfl (fun _ => rfl) (fun x106 e107 => ?_)
                    have t108 := ti_add e107 (by omega) (by omega)
                    refine ur_go rfl ?_
                    obtain ⟨f109, p110, t111⟩ := mf_4 hO88 hc92
                    have t112 := fI_of hc92 p110
                    have z113 := any_r x106
                    exact ih31 x74 x106 _ _ _ _ _ hO88 (hu32.tr (hu63.tr hu88)) (by omega) (by omega)
                  · have t114 := le_no c104
                    refine ur_ldA rfl rfl ?_
                    refine ur_ldI rfl rfl ?_
                    refine ur_ldI rfl rfl ?_
                    refine ur_push rfl ?_
                    obtain ⟨f115, p116⟩ := mf_50 hO88 hc92
                    have t117 := fI_of hc92 p116
                    obtain ⟨f118, p119⟩ := mf_51 hO88 hc92
                    have t120 := fI_of hc92 p119
                    refine ur_inl rfl (rcv_of hc92) (Nat.le_of_ble_eq_true rfl) (Nat.le_of_ble_eq_true rfl) (sf_X12_findSpan hO88 (hX0.un hO0 hO88 (hu32.tr (hu63.tr hu88)) (by decide)) _ (by show 0 ≤ a2.toInt ∧ a2.toInt ≤ 149; omega) _ _ (by show -400 ≤ (0 : Int32).toInt ∧ (0 : Int32).toInt ≤ 400; omega) (by omega) (fun w121 h123 hr122 hO123 hv123 => ?_))
                    have hu123 := hv123
                    obtain ⟨b124, rfl, t125⟩ := hr122
                    show uRun _ (uCall Mt _) _ 81 (_, [(.inl (bi b124))], _, _, _)
                    refine ur_neB rfl (fun c126 => ?_) (fun c126 => ?_)
                    · have t127 := t125 c126
                      refine ur_ldI rfl rfl ?_
                      refine ur_ldA rfl rfl ?_
                      obtain ⟨fs128, hc129⟩ := hO123.mod
                      obtain ⟨f130, p131⟩ := mf_50 hO123 hc129
                      refine ur_get rfl hc129 p131 ?_
                      have z132 := any_r f70
                      have z133 := any_r f130
                      refine ur_if2 rfl (fun c134 => ?_) (fun c134 => ?_)
                      · have t135 := le_to c134
                        refine ur_ldA rfl rfl ?_
                        refine ur_get rfl hc129 p131 ?_
                        refine ur_svIk [some (.inr (.inr (some 69))), some (.inl a1), some (.inl a2), some (.inl x74), some (.inl x24), some (.inl f70), some (.inl f72), some (.inl x75), some (.inl f130)] rfl rfl ?_
                        refine ur_ldI rfl rfl ?_
                        refine ur_ldI rfl rfl ?_
                        have z136 := any_r f72
                        refine ur_if2 rfl (fun c137 => ?_) (fun c137 => ?_)
                        · have t138 := lt_to c137
                          refine ur_incV (fun z => [some (.inr (.inr (some 69))), some (.inl a1), some (.inl a2), some (.inl x74), some (.inl x24), some (.inl f70), some (.inl f72), some (.inl z), some (.inl f130)]) rfl rfl (fun _ => rfl) (fun x139 e140 => ?_)
                          have t141 := ti_add e140 (by omega) (by omega)
                          refine ur_go rfl ?_
                          obtain ⟨f142, p143, t144⟩ := mf_4 hO123 hc129
                          have t145 := fI_of hc129 p143
                          obtain ⟨f146, p147, t148⟩ := mf_38 hO123 hc129
                          have t149 := fI_of hc129 p147
                          have z150 := any_r x139
                          exact ih79 x74 x139 _ _ hO123 (hu88.tr hu123) (by omega) (by omega)
                        · have t151 := lt_no c137
                          refine ur_ldI rfl rfl ?_
                          refine ur_ldA rfl rfl ?_
                          obtain ⟨f152, p153⟩ := mf_51 hO123 hc129
                          refine ur_get rfl hc129 p153 ?_
                          have z154 := any_r f152
                          refine ur_if2 rfl (fun c155 => ?_) (fun c155 => ?_)
                          · have t156 := lt_to c155
                            refine ur_incV (fun z => [some (.inr (.inr (some 69))), some (.inl a1), some (.inl a2), some (.inl x74), some (.inl x24), some (.inl f70), some (.inl f72), some (.inl z), some (.inl f130)]) rfl rfl (fun _ => rfl) (fun x157 e158 => ?_)
                            have t159 := ti_add e158 (by omega) (by omega)
                            refine ur_go rfl ?_
                            obtain ⟨f160, p161, t162⟩ := mf_4 hO123 hc129
                            have t163 := fI_of hc129 p161
                            obtain ⟨f164, p165, t166⟩ := mf_38 hO123 hc129
                            have t167 := fI_of hc129 p165
                            have z168 := any_r x157
                            exact ih79 x74 x157 _ _ hO123 (hu88.tr hu123) (by omega) (by omega)
                          · have t169 := lt_no c155
                            refine ur_ldI rfl rfl ?_
                            refine ur_if1 rfl (fun c170 => ?_) (fun c170 => ?_)
                            · have t171 := lt_to c170
                              refine ur_ldI rfl rfl ?_
                              refine ur_svIk [some (.inr (.inr (some 69))), some (.inl a1), some (.inl a2), some (.inl f130), some (.inl x24), some (.inl f70), some (.inl f72), some (.inl x75), some (.inl f130)] rfl rfl ?_
                              refine ur_incV (fun z => [some (.inr (.inr (some 69))), some (.inl a1), some (.inl a2), some (.inl f130), some (.inl x24), some (.inl f70), some (.inl f72), some (.inl z), some (.inl f130)]) rfl rfl (fun _ => rfl) (fun x172 e173 => ?_)
                              have t174 := ti_add e173 (by omega) (by omega)
                              refine ur_go rfl ?_
                              obtain ⟨f175, p176, t177⟩ := mf_4 hO123 hc129
                              have t178 := fI_of hc129 p176
                              obtain ⟨f179, p180, t181⟩ := mf_38 hO123 hc129
                              have t182 := fI_of hc129 p180
                              have z183 := any_r x172
                              exact ih79 f130 x172 _ _ hO123 (hu88.tr hu123) (by omega) (by omega)
                            · have t184 := lt_no c170
                              refine ur_ldI rfl rfl ?_
                              refine ur_ldI rfl rfl ?_
                              have z185 := any_r x74
                              refine ur_if2 rfl (fun c186 => ?_) (fun c186 => ?_)
                              · have t187 := le_to c186
                                refine ur_incV (fun z => [some (.inr (.inr (some 69))), some (.inl a1), some (.inl a2), some (.inl x74), some (.inl x24), some (.inl f70), some (.inl f72), some (.inl z), some (.inl f130)]) rfl rfl (fun _ => rfl) (fun x188 e189 => ?_)
                                have t190 := ti_add e189 (by omega) (by omega)
                                refine ur_go rfl ?_
                                obtain ⟨f191, p192, t193⟩ := mf_4 hO123 hc129
                                have t194 := fI_of hc129 p192
                                obtain ⟨f195, p196, t197⟩ := mf_38 hO123 hc129
                                have t198 := fI_of hc129 p196
                                have z199 := any_r x188
                                exact ih79 x74 x188 _ _ hO123 (hu88.tr hu123) (by omega) (by omega)
                              · have t200 := le_no c186
                                refine ur_ldI rfl rfl ?_
                                refine ur_svIk [some (.inr (.inr (some 69))), some (.inl a1), some (.inl a2), some (.inl f130), some (.inl x24), some (.inl f70), some (.inl f72), some (.inl x75), some (.inl f130)] rfl rfl ?_
                                refine ur_incV (fun z => [some (.inr (.inr (some 69))), some (.inl a1), some (.inl a2), some (.inl f130), some (.inl x24), some (.inl f70), some (.inl f72), some (.inl z), some (.inl f130)]) rfl rfl (fun _ => rfl) (fun x201 e202 => ?_)
                                have t203 := ti_add e202 (by omega) (by omega)
                                refine ur_go rfl ?_
                                obtain ⟨f204, p205, t206⟩ := mf_4 hO123 hc129
                                have t207 := fI_of hc129 p205
                                obtain ⟨f208, p209, t210⟩ := mf_38 hO123 hc129
                                have t211 := fI_of hc129 p209
                                have z212 := any_r x201
                                exact ih79 f130 x201 _ _ hO123 (hu88.tr hu123) (by omega) (by omega)
                      · have t213 := le_no c134
                        refine ur_ldI rfl rfl ?_
                        refine ur_go rfl ?_
                        refine ur_svIk [some (.inr (.inr (some 69))), some (.inl a1), some (.inl a2), some (.inl x74), some (.inl x24), some (.inl f70), some (.inl f72), some (.inl x75), some (.inl f70)] rfl rfl ?_
                        refine ur_ldI rfl rfl ?_
                        refine ur_ldI rfl rfl ?_
                        have z214 := any_r f72
                        refine ur_if2 rfl (fun c215 => ?_) (fun c215 => ?_)
                        · have t216 := lt_to c215
                          refine ur_incV (fun z => [some (.inr (.inr (some 69))), some (.inl a1), some (.inl a2), some (.inl x74), some (.inl x24), some (.inl f70), some (.inl f72), some (.inl z), some (.inl f70)]) rfl rfl (fun _ => rfl) (fun x217 e218 => ?_)
                          have t219 := ti_add e218 (by omega) (by omega)
                          refine ur_go rfl ?_
                          obtain ⟨f220, p221, t222⟩ := mf_4 hO123 hc129
                          have t223 := fI_of hc129 p221
                          obtain ⟨f224, p225, t226⟩ := mf_38 hO123 hc129
                          have t227 := fI_of hc129 p225
                          have z228 := any_r x217
                          exact ih79 x74 x217 _ _ hO123 (hu88.tr hu123) (by omega) (by omega)
                        · have t229 := lt_no c215
                          refine ur_ldI rfl rfl ?_
                          refine ur_ldA rfl rfl ?_
                          obtain ⟨f230, p231⟩ := mf_51 hO123 hc129
                          refine ur_get rfl hc129 p231 ?_
                          have z232 := any_r f230
                          refine ur_if2 rfl (fun c233 => ?_) (fun c233 => ?_)
                          · have t234 := lt_to c233
                            refine ur_incV (fun z => [some (.inr (.inr (some 69))), some (.inl a1), some (.inl a2), some (.inl x74), some (.inl x24), some (.inl f70), some (.inl f72), some (.inl z), some (.inl f70)]) rfl rfl (fun _ => rfl) (fun x235 e236 => ?_)
                            have t237 := ti_add e236 (by omega) (by omega)
                            refine ur_go rfl ?_
                            obtain ⟨f238, p239, t240⟩ := mf_4 hO123 hc129
                            have t241 := fI_of hc129 p239
                            obtain ⟨f242, p243, t244⟩ := mf_38 hO123 hc129
                            have t245 := fI_of hc129 p243
                            have z246 := any_r x235
                            exact ih79 x74 x235 _ _ hO123 (hu88.tr hu123) (by omega) (by omega)
                          · have t247 := lt_no c233
                            refine ur_ldI rfl rfl ?_
                            refine ur_if1 rfl (fun c248 => ?_) (fun c248 => ?_)
                            · have t249 := lt_to c248
                              refine ur_ldI rfl rfl ?_
                              refine ur_svIk [some (.inr (.inr (some 69))), some (.inl a1), some (.inl a2), some (.inl f70), some (.inl x24), some (.inl f70), some (.inl f72), some (.inl x75), some (.inl f70)] rfl rfl ?_
                              refine ur_incV (fun z => [some (.inr (.inr (some 69))), some (.inl a1), some (.inl a2), some (.inl f70), some (.inl x24), some (.inl f70), some (.inl f72), some (.inl z), some (.inl f70)]) rfl rfl (fun _ => rfl) (fun x250 e251 => ?_)
                              have t252 := ti_add e251 (by omega) (by omega)
                              refine ur_go rfl ?_
                              obtain ⟨f253, p254, t255⟩ := mf_4 hO123 hc129
                              have t256 := fI_of hc129 p254
                              obtain ⟨f257, p258, t259⟩ := mf_38 hO123 hc129
                              have t260 := fI_of hc129 p258
                              have z261 := any_r x250
                              exact ih79 f70 x250 _ _ hO123 (hu88.tr hu123) (by omega) (by omega)
                            · have t262 := lt_no c248
                              refine ur_ldI rfl rfl ?_
                              refine ur_ldI rfl rfl ?_
                              have z263 := any_r x74
                              refine ur_if2 rfl (fun c264 => ?_) (fun c264 => ?_)
                              · have t265 := le_to c264
                                refine ur_incV (fun z => [some (.inr (.inr (some 69))), some (.inl a1), some (.inl a2), some (.inl x74), some (.inl x24), some (.inl f70), some (.inl f72), some (.inl z), some (.inl f70)]) rfl rfl (fun _ => rfl) (fun x266 e267 => ?_)
                                have t268 := ti_add e267 (by omega) (by omega)
                                refine ur_go rfl ?_
                                obtain ⟨f269, p270, t271⟩ := mf_4 hO123 hc129
                                have t272 := fI_of hc129 p270
                                obtain ⟨f273, p274, t275⟩ := mf_38 hO123 hc129
                                have t276 := fI_of hc129 p274
                                have z277 := any_r x266
                                exact ih79 x74 x266 _ _ hO123 (hu88.tr hu123) (by omega) (by omega)
                              · have t278 := le_no c264
                                refine ur_ldI rfl rfl ?_
                                refine ur_svIk [some (.inr (.inr (some 69))), some (.inl a1), some (.inl a2), some (.inl f70), some (.inl x24), some (.inl f70), some (.inl f72), some (.inl x75), some (.inl f70)] rfl rfl ?_
                                refine ur_incV (fun z => [some (.inr (.inr (some 69))), some (.inl a1), some (.inl a2), some (.inl f70), some (.inl x24), some (.inl f70), some (.inl f72), some (.inl z), some (.inl f70)]) rfl rfl (fun _ => rfl) (fun x279 e280 => ?_)
                                have t281 := ti_add e280 (by omega) (by omega)
                                refine ur_go rfl ?_
                                obtain ⟨f282, p283, t284⟩ := mf_4 hO123 hc129
                                have t285 := fI_of hc129 p283
                                obtain ⟨f286, p287, t288⟩ := mf_38 hO123 hc129
                                have t289 := fI_of hc129 p287
                                have z290 := any_r x279
                                exact ih79 f70 x279 _ _ hO123 (hu88.tr hu123) (by omega) (by omega)
                    · refine ur_go rfl ?_
                      refine ur_incV (fun z => [some (.inr (.inr (some 69))), some (.inl a1), some (.inl a2), some (.inl x74), some (.inl x24), some (.inl f70), some (.inl f72), some (.inl z), u76]) rfl rfl (fun _ => rfl) (fun x291 e292 => ?_)
                      have t293 := ti_add e292 (by omega) (by omega)
                      refine ur_go rfl ?_
                      obtain ⟨fs294, hc295⟩ := hO123.mod
                      obtain ⟨f296, p297, t298⟩ := mf_4 hO123 hc295
                      have t299 := fI_of hc295 p297
                      obtain ⟨f300, p301, t302⟩ := mf_38 hO123 hc295
                      have t303 := fI_of hc295 p301
                      have z304 := any_r x291
                      exact ih79 x74 x291 _ _ hO123 (hu88.tr hu123) (by omega) (by omega)
              exact L77 _ x23 0 (u28) _ hO63 un.rf (by omega) (Nat.lt_succ_self _)
            · refine ur_go rfl ?_
              refine ur_incV (fun z => [some (.inr (.inr (some 69))), some (.inl a1), some (.inl a2), some (.inl x23), some (.inl z), u25, u26, u27, u28]) rfl rfl (fun _ => rfl) (fun x305 e306 => ?_)
              have t307 := ti_add e306 (by omega) (by omega)
              refine ur_go rfl ?_
              obtain ⟨fs308, hc309⟩ := hO63.mod
              obtain ⟨f310, p311, t312⟩ := mf_4 hO63 hc309
              have t313 := fI_of hc309 p311
              obtain ⟨f314, p315, t316⟩ := mf_38 hO63 hc309
              have t317 := fI_of hc309 p315
              have z318 := any_r x305
              exact ih31 x23 x305 _ _ _ _ _ hO63 (hu32.tr hu63) (by omega) (by omega)
      exact L29 _ (-2) 0 (none) (none) (none) (none) _ hO0 un.rf (by omega) (Nat.lt_succ_self _)
    · refine ur_push rfl ?_
      exact ur_ret rfl rfl (hQ _ _ ⟨_, rfl⟩ hO0 un.rf)

set_option maxRecDepth 20000 in
set_option maxHeartbeats 4000000 in
theorem sf_X12_isAheadThenBehind {d kc ks : Nat} {h0 : aH} {Q : Option aV → aH → Prop} (hO0 : OK h0) (hX0 : SX h0) (a1 : Int32) (b1 : 0 ≤ a1.toInt ∧ a1.toInt ≤ 149) (a2 : Int32) (b2 : 0 ≤ a2.toInt ∧ a2.toInt ≤ 149) (a3 : Int32) (b3 : 0 ≤ a3.toInt ∧ a3.toInt ≤ 11) (a4 : Int32) (b4 : 0 ≤ a4.toInt ∧ a4.toInt ≤ 999999) (pre0 : a1.toInt < fI h0 38) (pre1 : a2.toInt < fI h0 38) (pre2 : a3.toInt < fI h0 4) (hQ : ∀ r h', (∃ q, r = some (.inl (bi q))) → OK h' → un [] h0 h' → Q r h') : uCall Mt (d + 8) 257 [(.inr (.inr (some 69))), (.inl a1), (.inl a2), (.inl a3), (.inl a4)] h0 kc ks Q := by
  have l_0 : ((0) : Int32).toInt = 0 := by decide
  have l_1 : ((1) : Int32).toInt = 1 := by decide
  refine uc_ink [some (.inr (.inr (some 69))), some (.inl a1), some (.inl a2), some (.inl a3), some (.inl a4), none] mt_257 (Nat.le_of_ble_eq_true rfl) rfl ?_
  obtain ⟨fs1, hc2⟩ := hO0.mod
  obtain ⟨f3, p4, t5⟩ := mf_4 hO0 hc2
  have t6 := fI_of hc2 p4
  obtain ⟨f7, p8, t9⟩ := mf_38 hO0 hc2
  have t10 := fI_of hc2 p8
  refine ur_ldA rfl rfl ?_
  refine ur_ldI rfl rfl ?_
  refine ur_ldI rfl rfl ?_
  refine ur_ldI rfl rfl ?_
  refine ur_push rfl ?_
  refine ur_push rfl ?_
  refine ur_inl rfl (rcv_of hc2) (Nat.le_of_ble_eq_true rfl) (Nat.le_of_ble_eq_true rfl) (sf_X12_fitDay hO0 hX0 _ (by show 0 ≤ a1.toInt ∧ a1.toInt ≤ 149; omega) _ (by show 0 ≤ a3.toInt ∧ a3.toInt ≤ 11; omega) _ (by show -20000 ≤ a4.toInt ∧ a4.toInt ≤ 1020000; omega) _ (by show -400 ≤ (0 : Int32).toInt ∧ (0 : Int32).toInt ≤ 400; omega) _ (by show 0 ≤ (0 : Int32).toInt ∧ (0 : Int32).toInt ≤ 1020000; omega) (by omega) (by omega) (fun w11 h13 hr12 hO13 hv13 => ?_))
  have hu13 := hv13
  obtain ⟨x14, rfl, t15⟩ := hr12
  show uRun _ (uCall Mt _) _ 10 (_, [(.inl x14)], _, _, _)
  refine ur_svIk [some (.inr (.inr (some 69))), some (.inl a1), some (.inl a2), some (.inl a3), some (.inl a4), some (.inl x14)] rfl rfl ?_
  refine ur_ldI rfl rfl ?_
  refine ur_if1 rfl (fun c16 => ?_) (fun c16 => ?_)
  · have t17 := lt_to c16
    refine ur_push rfl ?_
    obtain ⟨fs18, hc19⟩ := hO13.mod
    obtain ⟨f20, p21, t22⟩ := mf_4 hO13 hc19
    have t23 := fI_of hc19 p21
    obtain ⟨f24, p25, t26⟩ := mf_38 hO13 hc19
    have t27 := fI_of hc19 p25
    have t28 := fI_keep (k := 4) hO0 hO13 hu13 rfl (by decide)
    have t29 := fI_keep (k := 38) hO0 hO13 hu13 rfl (by decide)
    exact ur_ret rfl rfl (hQ _ _ ⟨false, rfl⟩ hO13 hu13)
  · have t30 := lt_no c16
    refine ur_ldI rfl rfl ?_
    refine ur_ldI rfl rfl ?_
    have z31 := any_r x14
    have z32 := any_r a4
    refine ur_if2 rfl (fun c33 => ?_) (fun c33 => ?_)
    · have t34 := le_to c33
      refine ur_push rfl ?_
      obtain ⟨fs35, hc36⟩ := hO13.mod
      obtain ⟨f37, p38, t39⟩ := mf_4 hO13 hc36
      have t40 := fI_of hc36 p38
      obtain ⟨f41, p42, t43⟩ := mf_38 hO13 hc36
      have t44 := fI_of hc36 p42
      have t45 := fI_keep (k := 4) hO0 hO13 hu13 rfl (by decide)
      have t46 := fI_keep (k := 38) hO0 hO13 hu13 rfl (by decide)
      exact ur_ret rfl rfl (hQ _ _ ⟨false, rfl⟩ hO13 hu13)
    · have t47 := le_no c33
      refine ur_ldA rfl rfl ?_
      refine ur_ldI rfl rfl ?_
      refine ur_ldI rfl rfl ?_
      refine ur_ldI rfl rfl ?_
      refine ur_push rfl ?_
      refine ur_ldI rfl rfl ?_
      refine ur_push rfl ?_
      refine ur_binV rfl (fun x48 e49 => ?_)
      have t50 := ti_add e49 (by omega) (by omega)
      obtain ⟨fs51, hc52⟩ := hO13.mod
      obtain ⟨f53, p54, t55⟩ := mf_4 hO13 hc52
      have t56 := fI_of hc52 p54
      obtain ⟨f57, p58, t59⟩ := mf_38 hO13 hc52
      have t60 := fI_of hc52 p58
      have t61 := fI_keep (k := 4) hO0 hO13 hu13 rfl (by decide)
      have t62 := fI_keep (k := 38) hO0 hO13 hu13 rfl (by decide)
      refine ur_inl rfl (rcv_of hc52) (Nat.le_of_ble_eq_true rfl) (Nat.le_of_ble_eq_true rfl) (sf_X12_fitDay hO13 (hX0.un hO0 hO13 hu13 (by decide)) _ (by show 0 ≤ a2.toInt ∧ a2.toInt ≤ 149; omega) _ (by show 0 ≤ a3.toInt ∧ a3.toInt ≤ 11; omega) _ (by show -20000 ≤ a4.toInt ∧ a4.toInt ≤ 1020000; omega) _ (by show -400 ≤ (0 : Int32).toInt ∧ (0 : Int32).toInt ≤ 400; omega) _ (by show 0 ≤ x48.toInt ∧ x48.toInt ≤ 1020000; omega) (by omega) (by omega) (fun w63 h65 hr64 hO65 hv65 => ?_))
      have hu65 := hv65
      obtain ⟨x66, rfl, t67⟩ := hr64
      show uRun _ (uCall Mt _) _ 37 (_, [(.inl x66)], _, _, _)
      refine ur_if1 rfl (fun c68 => ?_) (fun c68 => ?_)
      · have t69 := lt_to c68
        refine ur_push rfl ?_
        obtain ⟨fs70, hc71⟩ := hO65.mod
        obtain ⟨f72, p73, t74⟩ := mf_4 hO65 hc71
        have t75 := fI_of hc71 p73
        obtain ⟨f76, p77, t78⟩ := mf_38 hO65 hc71
        have t79 := fI_of hc71 p77
        have t80 := fI_keep (k := 4) hO0 hO65 (hu13.tr hu65) rfl (by decide)
        have t81 := fI_keep (k := 38) hO0 hO65 (hu13.tr hu65) rfl (by decide)
        exact ur_ret rfl rfl (hQ _ _ ⟨false, rfl⟩ hO65 (hu13.tr hu65))
      · have t82 := lt_no c68
        refine ur_push rfl ?_
        refine ur_go rfl ?_
        obtain ⟨fs83, hc84⟩ := hO65.mod
        obtain ⟨f85, p86, t87⟩ := mf_4 hO65 hc84
        have t88 := fI_of hc84 p86
        obtain ⟨f89, p90, t91⟩ := mf_38 hO65 hc84
        have t92 := fI_of hc84 p90
        have t93 := fI_keep (k := 4) hO0 hO65 (hu13.tr hu65) rfl (by decide)
        have t94 := fI_keep (k := 38) hO0 hO65 (hu13.tr hu65) rfl (by decide)
        exact ur_ret rfl rfl (hQ _ _ ⟨true, rfl⟩ hO65 (hu13.tr hu65))

set_option maxRecDepth 20000 in
set_option maxHeartbeats 4000000 in
theorem sf_X12_behind {d kc ks : Nat} {h0 : aH} {Q : Option aV → aH → Prop} (hO0 : OK h0) (hX0 : SX h0) (a1 : Int32) (a2 : Int32) (hQ : ∀ r h', (∃ x, r = some (.inl x)) → OK h' → un [80, 81] h0 h' → Q r h') : uCall Mt (d + 9) 258 [(.inr (.inr (some 69))), (.inl a1), (.inl a2)] h0 kc ks Q := by
  have l_m60 : ((-60) : Int32).toInt = -60 := by decide
  have l_m2 : ((-2) : Int32).toInt = -2 := by decide
  have l_m1 : ((-1) : Int32).toInt = -1 := by decide
  have l_0 : ((0) : Int32).toInt = 0 := by decide
  have l_1 : ((1) : Int32).toInt = 1 := by decide
  have l_60 : ((60) : Int32).toInt = 60 := by decide
  have l_100 : ((100) : Int32).toInt = 100 := by decide
  have l_1000 : ((1000) : Int32).toInt = 1000 := by decide
  refine uc_ink [some (.inr (.inr (some 69))), some (.inl a1), some (.inl a2), none, none, none] mt_258 (Nat.le_of_ble_eq_true rfl) rfl ?_
  obtain ⟨fs1, hc2⟩ := hO0.mod
  obtain ⟨f3, p4, t5⟩ := mf_4 hO0 hc2
  have t6 := fI_of hc2 p4
  obtain ⟨f7, p8, t9⟩ := mf_38 hO0 hc2
  have t10 := fI_of hc2 p8
  refine ur_ldA rfl rfl ?_
  refine ur_ldI rfl rfl ?_
  refine ur_inl rfl (rcv_of hc2) (Nat.le_of_ble_eq_true rfl) (Nat.le_of_ble_eq_true rfl) (sg_isWord hO0 _ (fun w11 hr12 => ?_))
  obtain ⟨b13, rfl, t14⟩ := hr12
  show uRun _ (uCall Mt _) _ 5 (_, [(.inl (bi b13))], _, _, _)
  refine ur_eqB rfl (fun c15 => ?_) (fun c15 => ?_)
  · refine ur_push rfl ?_
    exact ur_ret rfl rfl (hQ _ _ ⟨_, rfl⟩ hO0 un.rf)
  · have t16 := t14 c15
    refine ur_ldA rfl rfl ?_
    refine ur_ldI rfl rfl ?_
    refine ur_inl rfl (rcv_of hc2) (Nat.le_of_ble_eq_true rfl) (Nat.le_of_ble_eq_true rfl) (sg_isWord hO0 _ (fun w17 hr18 => ?_))
    obtain ⟨b19, rfl, t20⟩ := hr18
    show uRun _ (uCall Mt _) _ 13 (_, [(.inl (bi b19))], _, _, _)
    refine ur_eqB rfl (fun c21 => ?_) (fun c21 => ?_)
    · refine ur_push rfl ?_
      exact ur_ret rfl rfl (hQ _ _ ⟨_, rfl⟩ hO0 un.rf)
    · have t22 := t20 c21
      refine ur_ldI rfl rfl ?_
      refine ur_ldI rfl rfl ?_
      have z23 := any_r a1
      have z24 := any_r a2
      refine ur_if2 rfl (fun c25 => ?_) (fun c25 => ?_)
      · have t26 := ne_to c25
        refine ur_push rfl ?_
        refine ur_svIk [some (.inr (.inr (some 69))), some (.inl a1), some (.inl a2), some (.inl 0), none, none] rfl rfl ?_
        have L30 : ∀ (m31 : Nat) (x27 : Int32) (u28 : Option aV) (u29 : Option aV) (h33 : aH) , OK h33 → un [80, 81] h0 h33 → ((0 ≤ x27.toInt ∧ x27.toInt ≤ 2147483647)) → ((2147483648 - x27.toInt).toNat) < m31 → uRun oX12_behind (uCall Mt (d + 8)) Q 25 ([some (.inr (.inr (some 69))), some (.inl a1), some (.inl a2), some (.inl x27), u28, u29], [], h33, kc, ks) := by
          intro m31
          induction m31 with
          | zero => intro x27 u28 u29 h33 hO33 hu33 iv34 mm35; omega
          | succ m31 ih32 =>
            intro x27 u28 u29 h33 hO33 hu33 iv34 mm35
            refine ur_ldI rfl rfl ?_
            refine ur_ldA rfl rfl ?_
            obtain ⟨fs36, hc37⟩ := hO33.mod
            obtain ⟨f38, p39, t40⟩ := mf_4 hO33 hc37
            have t41 := fI_of hc37 p39
            have t42 := fI_keep (k := 4) hO0 hO33 hu33 rfl (by decide)
            have t43 := fI_keep (k := 38) hO0 hO33 hu33 rfl (by decide)
            refine ur_get rfl hc37 p39 ?_
            have z44 := any_r x27
            have z45 := any_r f38
            refine ur_if2 rfl (fun c46 => ?_) (fun c46 => ?_)
            · have t47 := le_to c46
              refine ur_push rfl ?_
              obtain ⟨f48, p49, t50⟩ := mf_38 hO33 hc37
              have t51 := fI_of hc37 p49
              exact ur_ret rfl rfl (hQ _ _ ⟨_, rfl⟩ hO33 hu33)
            · have t52 := le_no c46
              refine ur_push rfl ?_
              refine ur_svIk [some (.inr (.inr (some 69))), some (.inl a1), some (.inl a2), some (.inl x27), some (.inl (-60)), u29] rfl rfl ?_
              obtain ⟨f58, p59, t60⟩ := mf_38 hO33 hc37
              have t61 := fI_of hc37 p59
              have L55 : ∀ (m56 : Nat) (x53 : Int32) (u54 : Option aV) (h62 : aH) , OK h62 → un [80, 81] h33 h62 → ((-60 ≤ x53.toInt ∧ x53.toInt ≤ 2147483647)) → ((2147483648 - x53.toInt).toNat) < m56 → uRun oX12_behind (uCall Mt (d + 8)) Q 37 ([some (.inr (.inr (some 69))), some (.inl a1), some (.inl a2), some (.inl x27), some (.inl x53), u54], [], h62, kc, ks) := by
                intro m56
                induction m56 with
                | zero => intro x53 u54 h62 hO62 hu62 iv63 mm64; omega
                | succ m56 ih57 =>
                  intro x53 u54 h62 hO62 hu62 iv63 mm64
                  refine ur_ldI rfl rfl ?_
                  refine ur_push rfl ?_
                  refine ur_if2 rfl (fun c65 => ?_) (fun c65 => ?_)
                  · have t66 := lt_to c65
                    refine ur_incV (fun z => [some (.inr (.inr (some 69))), some (.inl a1), some (.inl a2), some (.inl z), some (.inl x53), u54]) rfl rfl (fun _ => rfl) (fun x67 e68 => ?_)
                    have t69 := ti_add e68 (by omega) (by omega)
                    refine ur_go rfl ?_
                    obtain ⟨fs70, hc71⟩ := hO62.mod
                    obtain ⟨f72, p73, t74⟩ := mf_4 hO62 hc71
                    have t75 := fI_of hc71 p73
                    obtain ⟨f76, p77, t78⟩ := mf_38 hO62 hc71
                    have t79 := fI_of hc71 p77
                    have z80 := any_r x67
                    exact ih32 x67 _ _ _ hO62 (hu33.tr hu62) (by omega) (by omega)
                  · have t81 := lt_no c65
                    refine ur_ldA rfl rfl ?_
                    refine ur_ldI rfl rfl ?_
                    refine ur_ldI rfl rfl ?_
                    obtain ⟨fs82, hc83⟩ := hO62.mod
                    have t84 := fI_keep (k := 4) hO0 hO62 (hu33.tr hu62) rfl (by decide)
                    have t85 := fI_keep (k := 38) hO0 hO62 (hu33.tr hu62) rfl (by decide)
                    refine ur_inl rfl (rcv_of hc83) (Nat.le_of_ble_eq_true rfl) (Nat.le_of_ble_eq_true rfl) (sf_X12_passOf hO62 (hX0.un hO0 hO62 (hu33.tr hu62) (by decide)) _ (by show 0 ≤ x27.toInt ∧ x27.toInt ≤ 11; omega) _ (by show -60 ≤ x53.toInt ∧ x53.toInt ≤ 60; omega) (fun w86 h88 hr87 hO88 hv88 => ?_))
                    have hu88 := hv88
                    obtain ⟨x89, rfl, t90⟩ := hr87
                    show uRun _ (uCall Mt _) _ 51 (_, [(.inl x89)], _, _, _)
                    refine ur_svIk [some (.inr (.inr (some 69))), some (.inl a1), some (.inl a2), some (.inl x27), some (.inl x53), some (.inl x89)] rfl rfl ?_
                    refine ur_ldI rfl rfl ?_
                    refine ur_if1 rfl (fun c91 => ?_) (fun c91 => ?_)
                    · have t92 := lt_to c91
                      refine ur_incV (fun z => [some (.inr (.inr (some 69))), some (.inl a1), some (.inl a2), some (.inl x27), some (.inl z), some (.inl x89)]) rfl rfl (fun _ => rfl) (fun x93 e94 => ?_)
                      have z95 := any_r x53
                      have t96 := ti_add e94 (by omega) (by omega)
                      refine ur_go rfl ?_
                      obtain ⟨fs97, hc98⟩ := hO88.mod
                      obtain ⟨f99, p100, t101⟩ := mf_4 hO88 hc98
                      have t102 := fI_of hc98 p100
                      obtain ⟨f103, p104, t105⟩ := mf_38 hO88 hc98
                      have t106 := fI_of hc98 p104
                      have z107 := any_r x93
                      exact ih57 x93 _ _ hO88 (hu62.tr hu88) (by omega) (by omega)
                    · have t108 := lt_no c91
                      refine ur_ldA rfl rfl ?_
                      refine ur_ldI rfl rfl ?_
                      refine ur_ldI rfl rfl ?_
                      refine ur_ldI rfl rfl ?_
                      refine ur_ldI rfl rfl ?_
                      obtain ⟨fs109, hc110⟩ := hO88.mod
                      obtain ⟨f111, p112, t113⟩ := mf_4 hO88 hc110
                      have t114 := fI_of hc110 p112
                      obtain ⟨f115, p116, t117⟩ := mf_38 hO88 hc110
                      have t118 := fI_of hc110 p116
                      have t119 := fI_keep (k := 4) hO0 hO88 (hu33.tr (hu62.tr hu88)) rfl (by decide)
                      have t120 := fI_keep (k := 38) hO0 hO88 (hu33.tr (hu62.tr hu88)) rfl (by decide)
                      refine ur_inl rfl (rcv_of hc110) (Nat.le_of_ble_eq_true rfl) (Nat.le_of_ble_eq_true rfl) (sf_X12_isAheadThenBehind hO88 (hX0.un hO0 hO88 (hu33.tr (hu62.tr hu88)) (by decide)) _ (by show 0 ≤ a1.toInt ∧ a1.toInt ≤ 149; omega) _ (by show 0 ≤ a2.toInt ∧ a2.toInt ≤ 149; omega) _ (by show 0 ≤ x27.toInt ∧ x27.toInt ≤ 11; omega) _ (by show 0 ≤ x89.toInt ∧ x89.toInt ≤ 999999; omega) (by omega) (by omega) (by omega) (fun w121 h123 hr122 hO123 hv123 => ?_))
                      have hu123 : un [80, 81] h88 h123 := hv123.mono (by decide)
                      obtain ⟨b124, rfl⟩ := hr122
                      show uRun _ (uCall Mt _) _ 67 (_, [(.inl (bi b124))], _, _, _)
                      refine ur_neB rfl (fun c125 => ?_) (fun c125 => ?_)
                      · refine ur_push rfl ?_
                        refine ur_ldI rfl rfl ?_
                        refine ur_binV rfl (fun x126 e127 => ?_)
                        have t128 := ti_mulR e127 l_1000 (by omega) (by omega)
                        refine ur_push rfl ?_
                        refine ur_binV rfl (fun x129 e130 => ?_)
                        have z131 := any_r x126
                        have t132 := ti_add e130 (by omega) (by omega)
                        refine ur_ldI rfl rfl ?_
                        refine ur_binV rfl (fun x133 e134 => ?_)
                        have z135 := any_r x129
                        have z136 := any_r x53
                        have t137 := ti_add e134 (by omega) (by omega)
                        obtain ⟨fs138, hc139⟩ := hO123.mod
                        obtain ⟨f140, p141, t142⟩ := mf_4 hO123 hc139
                        have t143 := fI_of hc139 p141
                        obtain ⟨f144, p145, t146⟩ := mf_38 hO123 hc139
                        have t147 := fI_of hc139 p145
                        have t148 := fI_keep (k := 4) hO0 hO123 (hu33.tr (hu62.tr (hu88.tr hu123))) rfl (by decide)
                        have t149 := fI_keep (k := 38) hO0 hO123 (hu33.tr (hu62.tr (hu88.tr hu123))) rfl (by decide)
                        exact ur_ret rfl rfl (hQ _ _ ⟨_, rfl⟩ hO123 (hu33.tr (hu62.tr (hu88.tr hu123))))
                      · refine ur_ldA rfl rfl ?_
                        refine ur_ldI rfl rfl ?_
                        refine ur_ldI rfl rfl ?_
                        refine ur_ldI rfl rfl ?_
                        refine ur_ldI rfl rfl ?_
                        obtain ⟨fs150, hc151⟩ := hO123.mod
                        obtain ⟨f152, p153, t154⟩ := mf_4 hO123 hc151
                        have t155 := fI_of hc151 p153
                        obtain ⟨f156, p157, t158⟩ := mf_38 hO123 hc151
                        have t159 := fI_of hc151 p157
                        have t160 := fI_keep (k := 4) hO0 hO123 (hu33.tr (hu62.tr (hu88.tr hu123))) rfl (by decide)
                        have t161 := fI_keep (k := 38) hO0 hO123 (hu33.tr (hu62.tr (hu88.tr hu123))) rfl (by decide)
                        refine ur_inl rfl (rcv_of hc151) (Nat.le_of_ble_eq_true rfl) (Nat.le_of_ble_eq_true rfl) (sf_X12_isAheadThenBehind hO123 (hX0.un hO0 hO123 (hu33.tr (hu62.tr (hu88.tr hu123))) (by decide)) _ (by show 0 ≤ a2.toInt ∧ a2.toInt ≤ 149; omega) _ (by show 0 ≤ a1.toInt ∧ a1.toInt ≤ 149; omega) _ (by show 0 ≤ x27.toInt ∧ x27.toInt ≤ 11; omega) _ (by show 0 ≤ x89.toInt ∧ x89.toInt ≤ 999999; omega) (by omega) (by omega) (by omega) (fun w162 h164 hr163 hO164 hv164 => ?_))
                        have hu164 : un [80, 81] h123 h164 := hv164.mono (by decide)
                        obtain ⟨b165, rfl⟩ := hr163
                        show uRun _ (uCall Mt _) _ 79 (_, [(.inl (bi b165))], _, _, _)
                        refine ur_eqB rfl (fun c166 => ?_) (fun c166 => ?_)
                        · refine ur_incV (fun z => [some (.inr (.inr (some 69))), some (.inl a1), some (.inl a2), some (.inl x27), some (.inl z), some (.inl x89)]) rfl rfl (fun _ => rfl) (fun x167 e168 => ?_)
                          have z169 := any_r x53
                          have t170 := ti_add e168 (by omega) (by omega)
                          refine ur_go rfl ?_
                          obtain ⟨fs171, hc172⟩ := hO164.mod
                          obtain ⟨f173, p174, t175⟩ := mf_4 hO164 hc172
                          have t176 := fI_of hc172 p174
                          obtain ⟨f177, p178, t179⟩ := mf_38 hO164 hc172
                          have t180 := fI_of hc172 p178
                          have z181 := any_r x167
                          exact ih57 x167 _ _ hO164 (hu62.tr (hu88.tr (hu123.tr hu164))) (by omega) (by omega)
                        · refine ur_push rfl ?_
                          refine ur_ldI rfl rfl ?_
                          refine ur_binV rfl (fun x182 e183 => ?_)
                          have t184 := ti_mulR e183 l_1000 (by omega) (by omega)
                          refine ur_push rfl ?_
                          refine ur_binV rfl (fun x185 e186 => ?_)
                          have z187 := any_r x182
                          have t188 := ti_add e186 (by omega) (by omega)
                          refine ur_ldI rfl rfl ?_
                          refine ur_binV rfl (fun x189 e190 => ?_)
                          have z191 := any_r x185
                          have z192 := any_r x53
                          have t193 := ti_add e190 (by omega) (by omega)
                          obtain ⟨fs194, hc195⟩ := hO164.mod
                          obtain ⟨f196, p197, t198⟩ := mf_4 hO164 hc195
                          have t199 := fI_of hc195 p197
                          obtain ⟨f200, p201, t202⟩ := mf_38 hO164 hc195
                          have t203 := fI_of hc195 p201
                          have t204 := fI_keep (k := 4) hO0 hO164 (hu33.tr (hu62.tr (hu88.tr (hu123.tr hu164)))) rfl (by decide)
                          have t205 := fI_keep (k := 38) hO0 hO164 (hu33.tr (hu62.tr (hu88.tr (hu123.tr hu164)))) rfl (by decide)
                          exact ur_ret rfl rfl (hQ _ _ ⟨_, rfl⟩ hO164 (hu33.tr (hu62.tr (hu88.tr (hu123.tr hu164)))))
              exact L55 _ (-60) (u29) _ hO33 un.rf (by omega) (Nat.lt_succ_self _)
        exact L30 _ 0 (none) (none) _ hO0 un.rf (by omega) (Nat.lt_succ_self _)
      · have t206 := ne_no c25
        refine ur_push rfl ?_
        exact ur_ret rfl rfl (hQ _ _ ⟨_, rfl⟩ hO0 un.rf)

set_option maxRecDepth 20000 in
set_option maxHeartbeats 4000000 in
theorem sf_X12_isWatched {d kc ks : Nat} {h0 : aH} {Q : Option aV → aH → Prop} (hO0 : OK h0) (hX0 : SX h0) (a1 : Int32) (b1 : 0 ≤ a1.toInt ∧ a1.toInt ≤ 11) (a2 : Int32) (b2 : 0 ≤ a2.toInt ∧ a2.toInt ≤ 999999) (pre0 : a1.toInt < fI h0 4) (hQ : ∀ r h', (∃ q, r = some (.inl (bi q))) → OK h' → un [] h0 h' → Q r h') : uCall Mt (d + 6) 260 [(.inr (.inr (some 69))), (.inl a1), (.inl a2)] h0 kc ks Q := by
  have l_0 : ((0) : Int32).toInt = 0 := by decide
  have l_1 : ((1) : Int32).toInt = 1 := by decide
  have l_5 : ((5) : Int32).toInt = 5 := by decide
  have l_120 : ((120) : Int32).toInt = 120 := by decide
  refine uc_ink [some (.inr (.inr (some 69))), some (.inl a1), some (.inl a2), none, none, none, none, none] mt_260 (Nat.le_of_ble_eq_true rfl) rfl ?_
  obtain ⟨fs1, hc2⟩ := hO0.mod
  obtain ⟨f3, p4, t5⟩ := mf_4 hO0 hc2
  have t6 := fI_of hc2 p4
  obtain ⟨f7, p8, t9⟩ := mf_38 hO0 hc2
  have t10 := fI_of hc2 p8
  refine ur_push rfl ?_
  refine ur_svIk [some (.inr (.inr (some 69))), some (.inl a1), some (.inl a2), some (.inl 0), none, none, none, none] rfl rfl ?_
  have L16 : ∀ (m17 : Nat) (x11 : Int32) (u12 : Option aV) (u13 : Option aV) (u14 : Option aV) (u15 : Option aV) (h19 : aH) , OK h19 → un [] h0 h19 → ((0 ≤ x11.toInt ∧ x11.toInt ≤ 2147483647)) → ((2147483648 - x11.toInt).toNat) < m17 → uRun oX12_isWatched (uCall Mt (d + 5)) Q 2 ([some (.inr (.inr (some 69))), some (.inl a1), some (.inl a2), some (.inl x11), u12, u13, u14, u15], [], h19, kc, ks) := by
    intro m17
    induction m17 with
    | zero => intro x11 u12 u13 u14 u15 h19 hO19 hu19 iv20 mm21; omega
    | succ m17 ih18 =>
      intro x11 u12 u13 u14 u15 h19 hO19 hu19 iv20 mm21
      refine ur_ldI rfl rfl ?_
      refine ur_ldA rfl rfl ?_
      obtain ⟨fs22, hc23⟩ := hO19.mod
      obtain ⟨f24, p25, t26⟩ := mf_34 hO19 hc23
      refine ur_get rfl hc23 p25 ?_
      have z27 := any_r x11
      have z28 := any_r f24
      refine ur_if2 rfl (fun c29 => ?_) (fun c29 => ?_)
      · have t30 := le_to c29
        refine ur_push rfl ?_
        obtain ⟨f31, p32, t33⟩ := mf_4 hO19 hc23
        have t34 := fI_of hc23 p32
        obtain ⟨f35, p36, t37⟩ := mf_38 hO19 hc23
        have t38 := fI_of hc23 p36
        have t39 := fI_keep (k := 4) hO0 hO19 hu19 rfl (by decide)
        have t40 := fI_keep (k := 38) hO0 hO19 hu19 rfl (by decide)
        exact ur_ret rfl rfl (hQ _ _ ⟨false, rfl⟩ hO19 hu19)
      · have t41 := le_no c29
        refine ur_push rfl ?_
        refine ur_svIk [some (.inr (.inr (some 69))), some (.inl a1), some (.inl a2), some (.inl x11), some (.inl 0), u13, u14, u15] rfl rfl ?_
        refine ur_ldA rfl rfl ?_
        refine ur_get rfl hc23 (mf_36 hO19 hc23) ?_
        refine ur_ldI rfl rfl ?_
        obtain ⟨xs43, hc42, hn44, he45⟩ := hO19.int (hO19.fix 94 (by decide) rfl)
        refine ur_aldV rfl hc42 hn44 (by omega) (fun x46 hx47 => ?_)
        refine ur_ldI rfl rfl ?_
        refine ur_push rfl ?_
        refine ur_binV rfl (fun x48 e49 => ?_)
        have z50 := any_r a2
        have t51 := ti_sub e49 (by omega) (by omega)
        have z52 := any_r x46
        have z53 := any_r x48
        refine ur_if2 rfl (fun c54 => ?_) (fun c54 => ?_)
        · have t55 := le_to c54
          refine ur_ldA rfl rfl ?_
          refine ur_get rfl hc23 (mf_36 hO19 hc23) ?_
          refine ur_ldI rfl rfl ?_
          refine ur_aldV rfl hc42 hn44 (by omega) (fun x56 hx57 => ?_)
          obtain rfl : x46 = x56 := Option.some.inj (hx47.symm.trans hx57)
          refine ur_svIk [some (.inr (.inr (some 69))), some (.inl a1), some (.inl a2), some (.inl x11), some (.inl 0), some (.inl x46), u14, u15] rfl rfl ?_
          refine ur_ldA rfl rfl ?_
          refine ur_get rfl hc23 (mf_37 hO19 hc23) ?_
          refine ur_ldI rfl rfl ?_
          obtain ⟨xs59, hc58, hn60, he61⟩ := hO19.int (hO19.fix 95 (by decide) rfl)
          refine ur_aldV rfl hc58 hn60 (by omega) (fun x62 hx63 => ?_)
          have t64 : 0 ≤ x62.toInt ∧ x62.toInt ≤ 999999 := he61 _ _ hx63
          refine ur_ldI rfl rfl ?_
          refine ur_push rfl ?_
          refine ur_binV rfl (fun x65 e66 => ?_)
          have t67 := ti_add e66 (by omega) (by omega)
          have z68 := any_r x62
          have z69 := any_r x65
          refine ur_if2 rfl (fun c70 => ?_) (fun c70 => ?_)
          · have t71 := le_to c70
            refine ur_ldA rfl rfl ?_
            refine ur_get rfl hc23 (mf_37 hO19 hc23) ?_
            refine ur_ldI rfl rfl ?_
            refine ur_aldV rfl hc58 hn60 (by omega) (fun x72 hx73 => ?_)
            obtain rfl : x62 = x72 := Option.some.inj (hx63.symm.trans hx73)
            refine ur_svIk [some (.inr (.inr (some 69))), some (.inl a1), some (.inl a2), some (.inl x11), some (.inl 0), some (.inl x46), some (.inl x62), u15] rfl rfl ?_
            refine ur_ldI rfl rfl ?_
            refine ur_svIk [some (.inr (.inr (some 69))), some (.inl a1), some (.inl a2), some (.inl x11), some (.inl 0), some (.inl x46), some (.inl x62), some (.inl x46)] rfl rfl ?_
            obtain ⟨f79, p80, t81⟩ := mf_4 hO19 hc23
            have t82 := fI_of hc23 p80
            obtain ⟨f83, p84, t85⟩ := mf_38 hO19 hc23
            have t86 := fI_of hc23 p84
            have L76 : ∀ (m77 : Nat) (x74 : Int32) (x75 : Int32) (h87 : aH) , OK h87 → un [] h19 h87 → ((-120 ≤ x75.toInt ∧ x75.toInt ≤ 2147483647)) → ((2147483648 - x75.toInt).toNat) < m77 → uRun oX12_isWatched (uCall Mt (d + 5)) Q 73 ([some (.inr (.inr (some 69))), some (.inl a1), some (.inl a2), some (.inl x11), some (.inl x74), some (.inl x46), some (.inl x62), some (.inl x75)], [], h87, kc, ks) := by
              intro m77
              induction m77 with
              | zero => intro x74 x75 h87 hO87 hu87 iv88 mm89; omega
              | succ m77 ih78 =>
                intro x74 x75 h87 hO87 hu87 iv88 mm89
                refine ur_ldI rfl rfl ?_
                refine ur_ldI rfl rfl ?_
                have z90 := any_r x75
                refine ur_if2 rfl (fun c91 => ?_) (fun c91 => ?_)
                · have t92 := lt_to c91
                  refine ur_ldI rfl rfl ?_
                  refine ur_push rfl ?_
                  refine ur_if2 rfl (fun c93 => ?_) (fun c93 => ?_)
                  · have t94 := lt_to c93
                    refine ur_incV (fun z => [some (.inr (.inr (some 69))), some (.inl a1), some (.inl a2), some (.inl z), some (.inl x74), some (.inl x46), some (.inl x62), some (.inl x75)]) rfl rfl (fun _ => rfl) (fun x95 e96 => ?_)
                    have t97 := ti_add e96 (by omega) (by omega)
                    refine ur_go rfl ?_
                    obtain ⟨fs98, hc99⟩ := hO87.mod
                    obtain ⟨f100, p101, t102⟩ := mf_4 hO87 hc99
                    have t103 := fI_of hc99 p101
                    obtain ⟨f104, p105, t106⟩ := mf_38 hO87 hc99
                    have t107 := fI_of hc99 p105
                    have z108 := any_r x95
                    exact ih18 x95 _ _ _ _ _ hO87 (hu19.tr hu87) (by omega) (by omega)
                  · have t109 := lt_no c93
                    refine ur_push rfl ?_
                    obtain ⟨fs110, hc111⟩ := hO87.mod
                    obtain ⟨f112, p113, t114⟩ := mf_4 hO87 hc111
                    have t115 := fI_of hc111 p113
                    obtain ⟨f116, p117, t118⟩ := mf_38 hO87 hc111
                    have t119 := fI_of hc111 p117
                    have t120 := fI_keep (k := 4) hO0 hO87 (hu19.tr hu87) rfl (by decide)
                    have t121 := fI_keep (k := 38) hO0 hO87 (hu19.tr hu87) rfl (by decide)
                    exact ur_ret rfl rfl (hQ _ _ ⟨true, rfl⟩ hO87 (hu19.tr hu87))
                · have t122 := lt_no c91
                  refine ur_ldI rfl rfl ?_
                  refine ur_push rfl ?_
                  refine ur_if2 rfl (fun c123 => ?_) (fun c123 => ?_)
                  · have t124 := le_to c123
                    refine ur_ldI rfl rfl ?_
                    refine ur_push rfl ?_
                    refine ur_if2 rfl (fun c125 => ?_) (fun c125 => ?_)
                    · have t126 := lt_to c125
                      exfalso
                      omega
                    · have t127 := lt_no c125
                      refine ur_push rfl ?_
                      obtain ⟨fs128, hc129⟩ := hO87.mod
                      obtain ⟨f130, p131, t132⟩ := mf_4 hO87 hc129
                      have t133 := fI_of hc129 p131
                      obtain ⟨f134, p135, t136⟩ := mf_38 hO87 hc129
                      have t137 := fI_of hc129 p135
                      have t138 := fI_keep (k := 4) hO0 hO87 (hu19.tr hu87) rfl (by decide)
                      have t139 := fI_keep (k := 38) hO0 hO87 (hu19.tr hu87) rfl (by decide)
                      exact ur_ret rfl rfl (hQ _ _ ⟨true, rfl⟩ hO87 (hu19.tr hu87))
                  · have t140 := le_no c123
                    refine ur_ldI rfl rfl ?_
                    refine ur_ldA rfl rfl ?_
                    refine ur_ldI rfl rfl ?_
                    refine ur_ldI rfl rfl ?_
                    refine ur_ldA rfl rfl ?_
                    obtain ⟨fs141, hc142⟩ := hO87.mod
                    refine ur_get rfl hc142 (mf_35 hO87 hc142) ?_
                    refine ur_ldI rfl rfl ?_
                    obtain ⟨xs144, hc143, hn145, he146⟩ := hO87.int (hO87.fix 93 (by decide) rfl)
                    refine ur_aldV rfl hc143 hn145 (by omega) (fun x147 hx148 => ?_)
                    refine ur_ldI rfl rfl ?_
                    obtain ⟨f149, p150, t151⟩ := mf_4 hO87 hc142
                    have t152 := fI_of hc142 p150
                    have t153 := fI_keep (k := 4) hO0 hO87 (hu19.tr hu87) rfl (by decide)
                    have t154 := fI_keep (k := 38) hO0 hO87 (hu19.tr hu87) rfl (by decide)
                    refine ur_inl rfl (rcv_of hc142) (Nat.le_of_ble_eq_true rfl) (Nat.le_of_ble_eq_true rfl) (sf_X12_canSee hO87 (hX0.un hO0 hO87 (hu19.tr hu87) (by decide)) _ (by show 0 ≤ a1.toInt ∧ a1.toInt ≤ 11; omega) _ _ _ (by omega) (fun w155 h157 hr156 hO157 hv157 => ?_))
                    have hu157 := hv157
                    obtain ⟨b158, rfl⟩ := hr156
                    show uRun _ (uCall Mt _) _ 102 (_, [(.inl (bi b158)), (.inl x74)], _, _, _)
                    refine ur_eqB rfl (fun c159 => ?_) (fun c159 => ?_)
                    · refine ur_push rfl ?_
                      refine ur_binV rfl (fun x160 e161 => ?_)
                      have z162 := any_r x74
                      have t163 := ti_add e161 (by omega) (by omega)
                      refine ur_svIk [some (.inr (.inr (some 69))), some (.inl a1), some (.inl a2), some (.inl x11), some (.inl x160), some (.inl x46), some (.inl x62), some (.inl x75)] rfl rfl ?_
                      refine ur_incV (fun z => [some (.inr (.inr (some 69))), some (.inl a1), some (.inl a2), some (.inl x11), some (.inl x160), some (.inl x46), some (.inl x62), some (.inl z)]) rfl rfl (fun _ => rfl) (fun x164 e165 => ?_)
                      have t166 := ti_add e165 (by omega) (by omega)
                      refine ur_go rfl ?_
                      obtain ⟨fs167, hc168⟩ := hO157.mod
                      obtain ⟨f169, p170, t171⟩ := mf_4 hO157 hc168
                      have t172 := fI_of hc168 p170
                      obtain ⟨f173, p174, t175⟩ := mf_38 hO157 hc168
                      have t176 := fI_of hc168 p174
                      have z177 := any_r x164
                      exact ih78 x160 x164 _ hO157 (hu87.tr hu157) (by omega) (by omega)
                    · refine ur_push rfl ?_
                      refine ur_go rfl ?_
                      refine ur_binV rfl (fun x178 e179 => ?_)
                      have z180 := any_r x74
                      have t181 := ti_add e179 (by omega) (by omega)
                      refine ur_svIk [some (.inr (.inr (some 69))), some (.inl a1), some (.inl a2), some (.inl x11), some (.inl x178), some (.inl x46), some (.inl x62), some (.inl x75)] rfl rfl ?_
                      refine ur_incV (fun z => [some (.inr (.inr (some 69))), some (.inl a1), some (.inl a2), some (.inl x11), some (.inl x178), some (.inl x46), some (.inl x62), some (.inl z)]) rfl rfl (fun _ => rfl) (fun x182 e183 => ?_)
                      have t184 := ti_add e183 (by omega) (by omega)
                      refine ur_go rfl ?_
                      obtain ⟨fs185, hc186⟩ := hO157.mod
                      obtain ⟨f187, p188, t189⟩ := mf_4 hO157 hc186
                      have t190 := fI_of hc186 p188
                      obtain ⟨f191, p192, t193⟩ := mf_38 hO157 hc186
                      have t194 := fI_of hc186 p192
                      have z195 := any_r x182
                      exact ih78 x178 x182 _ hO157 (hu87.tr hu157) (by omega) (by omega)
            exact L76 _ 0 x46 _ hO19 un.rf (by omega) (Nat.lt_succ_self _)
          · have t196 := le_no c70
            refine ur_ldI rfl rfl ?_
            refine ur_push rfl ?_
            refine ur_binV rfl (fun x197 e198 => ?_)
            have t199 := ti_add e198 (by omega) (by omega)
            refine ur_go rfl ?_
            refine ur_svIk [some (.inr (.inr (some 69))), some (.inl a1), some (.inl a2), some (.inl x11), some (.inl 0), some (.inl x46), some (.inl x197), u15] rfl rfl ?_
            refine ur_ldI rfl rfl ?_
            refine ur_svIk [some (.inr (.inr (some 69))), some (.inl a1), some (.inl a2), some (.inl x11), some (.inl 0), some (.inl x46), some (.inl x197), some (.inl x46)] rfl rfl ?_
            obtain ⟨f205, p206, t207⟩ := mf_4 hO19 hc23
            have t208 := fI_of hc23 p206
            obtain ⟨f209, p210, t211⟩ := mf_38 hO19 hc23
            have t212 := fI_of hc23 p210
            have L202 : ∀ (m203 : Nat) (x200 : Int32) (x201 : Int32) (h213 : aH) , OK h213 → un [] h19 h213 → ((-120 ≤ x201.toInt ∧ x201.toInt ≤ 2147483647)) → ((2147483648 - x201.toInt).toNat) < m203 → uRun oX12_isWatched (uCall Mt (d + 5)) Q 73 ([some (.inr (.inr (some 69))), some (.inl a1), some (.inl a2), some (.inl x11), some (.inl x200), some (.inl x46), some (.inl x197), some (.inl x201)], [], h213, kc, ks) := by
              intro m203
              induction m203 with
              | zero => intro x200 x201 h213 hO213 hu213 iv214 mm215; omega
              | succ m203 ih204 =>
                intro x200 x201 h213 hO213 hu213 iv214 mm215
                refine ur_ldI rfl rfl ?_
                refine ur_ldI rfl rfl ?_
                have z216 := any_r x201
                have z217 := any_r x197
                refine ur_if2 rfl (fun c218 => ?_) (fun c218 => ?_)
                · have t219 := lt_to c218
                  refine ur_ldI rfl rfl ?_
                  refine ur_push rfl ?_
                  refine ur_if2 rfl (fun c220 => ?_) (fun c220 => ?_)
                  · have t221 := lt_to c220
                    refine ur_incV (fun z => [some (.inr (.inr (some 69))), some (.inl a1), some (.inl a2), some (.inl z), some (.inl x200), some (.inl x46), some (.inl x197), some (.inl x201)]) rfl rfl (fun _ => rfl) (fun x222 e223 => ?_)
                    have t224 := ti_add e223 (by omega) (by omega)
                    refine ur_go rfl ?_
                    obtain ⟨fs225, hc226⟩ := hO213.mod
                    obtain ⟨f227, p228, t229⟩ := mf_4 hO213 hc226
                    have t230 := fI_of hc226 p228
                    obtain ⟨f231, p232, t233⟩ := mf_38 hO213 hc226
                    have t234 := fI_of hc226 p232
                    have z235 := any_r x222
                    exact ih18 x222 _ _ _ _ _ hO213 (hu19.tr hu213) (by omega) (by omega)
                  · have t236 := lt_no c220
                    refine ur_push rfl ?_
                    obtain ⟨fs237, hc238⟩ := hO213.mod
                    obtain ⟨f239, p240, t241⟩ := mf_4 hO213 hc238
                    have t242 := fI_of hc238 p240
                    obtain ⟨f243, p244, t245⟩ := mf_38 hO213 hc238
                    have t246 := fI_of hc238 p244
                    have t247 := fI_keep (k := 4) hO0 hO213 (hu19.tr hu213) rfl (by decide)
                    have t248 := fI_keep (k := 38) hO0 hO213 (hu19.tr hu213) rfl (by decide)
                    exact ur_ret rfl rfl (hQ _ _ ⟨true, rfl⟩ hO213 (hu19.tr hu213))
                · have t249 := lt_no c218
                  refine ur_ldI rfl rfl ?_
                  refine ur_push rfl ?_
                  refine ur_if2 rfl (fun c250 => ?_) (fun c250 => ?_)
                  · have t251 := le_to c250
                    refine ur_ldI rfl rfl ?_
                    refine ur_push rfl ?_
                    refine ur_if2 rfl (fun c252 => ?_) (fun c252 => ?_)
                    · have t253 := lt_to c252
                      exfalso
                      omega
                    · have t254 := lt_no c252
                      refine ur_push rfl ?_
                      obtain ⟨fs255, hc256⟩ := hO213.mod
                      obtain ⟨f257, p258, t259⟩ := mf_4 hO213 hc256
                      have t260 := fI_of hc256 p258
                      obtain ⟨f261, p262, t263⟩ := mf_38 hO213 hc256
                      have t264 := fI_of hc256 p262
                      have t265 := fI_keep (k := 4) hO0 hO213 (hu19.tr hu213) rfl (by decide)
                      have t266 := fI_keep (k := 38) hO0 hO213 (hu19.tr hu213) rfl (by decide)
                      exact ur_ret rfl rfl (hQ _ _ ⟨true, rfl⟩ hO213 (hu19.tr hu213))
                  · have t267 := le_no c250
                    refine ur_ldI rfl rfl ?_
                    refine ur_ldA rfl rfl ?_
                    refine ur_ldI rfl rfl ?_
                    refine ur_ldI rfl rfl ?_
                    refine ur_ldA rfl rfl ?_
                    obtain ⟨fs268, hc269⟩ := hO213.mod
                    refine ur_get rfl hc269 (mf_35 hO213 hc269) ?_
                    refine ur_ldI rfl rfl ?_
                    obtain ⟨xs271, hc270, hn272, he273⟩ := hO213.int (hO213.fix 93 (by decide) rfl)
                    refine ur_aldV rfl hc270 hn272 (by omega) (fun x274 hx275 => ?_)
                    refine ur_ldI rfl rfl ?_
                    obtain ⟨f276, p277, t278⟩ := mf_4 hO213 hc269
                    have t279 := fI_of hc269 p277
                    have t280 := fI_keep (k := 4) hO0 hO213 (hu19.tr hu213) rfl (by decide)
                    have t281 := fI_keep (k := 38) hO0 hO213 (hu19.tr hu213) rfl (by decide)
                    refine ur_inl rfl (rcv_of hc269) (Nat.le_of_ble_eq_true rfl) (Nat.le_of_ble_eq_true rfl) (sf_X12_canSee hO213 (hX0.un hO0 hO213 (hu19.tr hu213) (by decide)) _ (by show 0 ≤ a1.toInt ∧ a1.toInt ≤ 11; omega) _ _ _ (by omega) (fun w282 h284 hr283 hO284 hv284 => ?_))
                    have hu284 := hv284
                    obtain ⟨b285, rfl⟩ := hr283
                    show uRun _ (uCall Mt _) _ 102 (_, [(.inl (bi b285)), (.inl x200)], _, _, _)
                    refine ur_eqB rfl (fun c286 => ?_) (fun c286 => ?_)
                    · refine ur_push rfl ?_
                      refine ur_binV rfl (fun x287 e288 => ?_)
                      have z289 := any_r x200
                      have t290 := ti_add e288 (by omega) (by omega)
                      refine ur_svIk [some (.inr (.inr (some 69))), some (.inl a1), some (.inl a2), some (.inl x11), some (.inl x287), some (.inl x46), some (.inl x197), some (.inl x201)] rfl rfl ?_
                      refine ur_incV (fun z => [some (.inr (.inr (some 69))), some (.inl a1), some (.inl a2), some (.inl x11), some (.inl x287), some (.inl x46), some (.inl x197), some (.inl z)]) rfl rfl (fun _ => rfl) (fun x291 e292 => ?_)
                      have t293 := ti_add e292 (by omega) (by omega)
                      refine ur_go rfl ?_
                      obtain ⟨fs294, hc295⟩ := hO284.mod
                      obtain ⟨f296, p297, t298⟩ := mf_4 hO284 hc295
                      have t299 := fI_of hc295 p297
                      obtain ⟨f300, p301, t302⟩ := mf_38 hO284 hc295
                      have t303 := fI_of hc295 p301
                      have z304 := any_r x291
                      exact ih204 x287 x291 _ hO284 (hu213.tr hu284) (by omega) (by omega)
                    · refine ur_push rfl ?_
                      refine ur_go rfl ?_
                      refine ur_binV rfl (fun x305 e306 => ?_)
                      have z307 := any_r x200
                      have t308 := ti_add e306 (by omega) (by omega)
                      refine ur_svIk [some (.inr (.inr (some 69))), some (.inl a1), some (.inl a2), some (.inl x11), some (.inl x305), some (.inl x46), some (.inl x197), some (.inl x201)] rfl rfl ?_
                      refine ur_incV (fun z => [some (.inr (.inr (some 69))), some (.inl a1), some (.inl a2), some (.inl x11), some (.inl x305), some (.inl x46), some (.inl x197), some (.inl z)]) rfl rfl (fun _ => rfl) (fun x309 e310 => ?_)
                      have t311 := ti_add e310 (by omega) (by omega)
                      refine ur_go rfl ?_
                      obtain ⟨fs312, hc313⟩ := hO284.mod
                      obtain ⟨f314, p315, t316⟩ := mf_4 hO284 hc313
                      have t317 := fI_of hc313 p315
                      obtain ⟨f318, p319, t320⟩ := mf_38 hO284 hc313
                      have t321 := fI_of hc313 p319
                      have z322 := any_r x309
                      exact ih204 x305 x309 _ hO284 (hu213.tr hu284) (by omega) (by omega)
            exact L202 _ 0 x46 _ hO19 un.rf (by omega) (Nat.lt_succ_self _)
        · have t323 := le_no c54
          refine ur_ldI rfl rfl ?_
          refine ur_push rfl ?_
          refine ur_binV rfl (fun x324 e325 => ?_)
          have t326 := ti_sub e325 (by omega) (by omega)
          refine ur_go rfl ?_
          refine ur_svIk [some (.inr (.inr (some 69))), some (.inl a1), some (.inl a2), some (.inl x11), some (.inl 0), some (.inl x324), u14, u15] rfl rfl ?_
          refine ur_ldA rfl rfl ?_
          refine ur_get rfl hc23 (mf_37 hO19 hc23) ?_
          refine ur_ldI rfl rfl ?_
          obtain ⟨xs328, hc327, hn329, he330⟩ := hO19.int (hO19.fix 95 (by decide) rfl)
          refine ur_aldV rfl hc327 hn329 (by omega) (fun x331 hx332 => ?_)
          have t333 : 0 ≤ x331.toInt ∧ x331.toInt ≤ 999999 := he330 _ _ hx332
          refine ur_ldI rfl rfl ?_
          refine ur_push rfl ?_
          refine ur_binV rfl (fun x334 e335 => ?_)
          have t336 := ti_add e335 (by omega) (by omega)
          have z337 := any_r x331
          have z338 := any_r x334
          refine ur_if2 rfl (fun c339 => ?_) (fun c339 => ?_)
          · have t340 := le_to c339
            refine ur_ldA rfl rfl ?_
            refine ur_get rfl hc23 (mf_37 hO19 hc23) ?_
            refine ur_ldI rfl rfl ?_
            refine ur_aldV rfl hc327 hn329 (by omega) (fun x341 hx342 => ?_)
            obtain rfl : x331 = x341 := Option.some.inj (hx332.symm.trans hx342)
            refine ur_svIk [some (.inr (.inr (some 69))), some (.inl a1), some (.inl a2), some (.inl x11), some (.inl 0), some (.inl x324), some (.inl x331), u15] rfl rfl ?_
            refine ur_ldI rfl rfl ?_
            refine ur_svIk [some (.inr (.inr (some 69))), some (.inl a1), some (.inl a2), some (.inl x11), some (.inl 0), some (.inl x324), some (.inl x331), some (.inl x324)] rfl rfl ?_
            obtain ⟨f348, p349, t350⟩ := mf_4 hO19 hc23
            have t351 := fI_of hc23 p349
            obtain ⟨f352, p353, t354⟩ := mf_38 hO19 hc23
            have t355 := fI_of hc23 p353
            have L345 : ∀ (m346 : Nat) (x343 : Int32) (x344 : Int32) (h356 : aH) , OK h356 → un [] h19 h356 → ((-120 ≤ x344.toInt ∧ x344.toInt ≤ 2147483647)) → ((2147483648 - x344.toInt).toNat) < m346 → uRun oX12_isWatched (uCall Mt (d + 5)) Q 73 ([some (.inr (.inr (some 69))), some (.inl a1), some (.inl a2), some (.inl x11), some (.inl x343), some (.inl x324), some (.inl x331), some (.inl x344)], [], h356, kc, ks) := by
              intro m346
              induction m346 with
              | zero => intro x343 x344 h356 hO356 hu356 iv357 mm358; omega
              | succ m346 ih347 =>
                intro x343 x344 h356 hO356 hu356 iv357 mm358
                refine ur_ldI rfl rfl ?_
                refine ur_ldI rfl rfl ?_
                have z359 := any_r x344
                refine ur_if2 rfl (fun c360 => ?_) (fun c360 => ?_)
                · have t361 := lt_to c360
                  refine ur_ldI rfl rfl ?_
                  refine ur_push rfl ?_
                  refine ur_if2 rfl (fun c362 => ?_) (fun c362 => ?_)
                  · have t363 := lt_to c362
                    refine ur_incV (fun z => [some (.inr (.inr (some 69))), some (.inl a1), some (.inl a2), some (.inl z), some (.inl x343), some (.inl x324), some (.inl x331), some (.inl x344)]) rfl rfl (fun _ => rfl) (fun x364 e365 => ?_)
                    have t366 := ti_add e365 (by omega) (by omega)
                    refine ur_go rfl ?_
                    obtain ⟨fs367, hc368⟩ := hO356.mod
                    obtain ⟨f369, p370, t371⟩ := mf_4 hO356 hc368
                    have t372 := fI_of hc368 p370
                    obtain ⟨f373, p374, t375⟩ := mf_38 hO356 hc368
                    have t376 := fI_of hc368 p374
                    have z377 := any_r x364
                    exact ih18 x364 _ _ _ _ _ hO356 (hu19.tr hu356) (by omega) (by omega)
                  · have t378 := lt_no c362
                    refine ur_push rfl ?_
                    obtain ⟨fs379, hc380⟩ := hO356.mod
                    obtain ⟨f381, p382, t383⟩ := mf_4 hO356 hc380
                    have t384 := fI_of hc380 p382
                    obtain ⟨f385, p386, t387⟩ := mf_38 hO356 hc380
                    have t388 := fI_of hc380 p386
                    have t389 := fI_keep (k := 4) hO0 hO356 (hu19.tr hu356) rfl (by decide)
                    have t390 := fI_keep (k := 38) hO0 hO356 (hu19.tr hu356) rfl (by decide)
                    exact ur_ret rfl rfl (hQ _ _ ⟨true, rfl⟩ hO356 (hu19.tr hu356))
                · have t391 := lt_no c360
                  refine ur_ldI rfl rfl ?_
                  refine ur_push rfl ?_
                  refine ur_if2 rfl (fun c392 => ?_) (fun c392 => ?_)
                  · have t393 := le_to c392
                    refine ur_ldI rfl rfl ?_
                    refine ur_push rfl ?_
                    refine ur_if2 rfl (fun c394 => ?_) (fun c394 => ?_)
                    · have t395 := lt_to c394
                      exfalso
                      omega
                    · have t396 := lt_no c394
                      refine ur_push rfl ?_
                      obtain ⟨fs397, hc398⟩ := hO356.mod
                      obtain ⟨f399, p400, t401⟩ := mf_4 hO356 hc398
                      have t402 := fI_of hc398 p400
                      obtain ⟨f403, p404, t405⟩ := mf_38 hO356 hc398
                      have t406 := fI_of hc398 p404
                      have t407 := fI_keep (k := 4) hO0 hO356 (hu19.tr hu356) rfl (by decide)
                      have t408 := fI_keep (k := 38) hO0 hO356 (hu19.tr hu356) rfl (by decide)
                      exact ur_ret rfl rfl (hQ _ _ ⟨true, rfl⟩ hO356 (hu19.tr hu356))
                  · have t409 := le_no c392
                    refine ur_ldI rfl rfl ?_
                    refine ur_ldA rfl rfl ?_
                    refine ur_ldI rfl rfl ?_
                    refine ur_ldI rfl rfl ?_
                    refine ur_ldA rfl rfl ?_
                    obtain ⟨fs410, hc411⟩ := hO356.mod
                    refine ur_get rfl hc411 (mf_35 hO356 hc411) ?_
                    refine ur_ldI rfl rfl ?_
                    obtain ⟨xs413, hc412, hn414, he415⟩ := hO356.int (hO356.fix 93 (by decide) rfl)
                    refine ur_aldV rfl hc412 hn414 (by omega) (fun x416 hx417 => ?_)
                    refine ur_ldI rfl rfl ?_
                    obtain ⟨f418, p419, t420⟩ := mf_4 hO356 hc411
                    have t421 := fI_of hc411 p419
                    have t422 := fI_keep (k := 4) hO0 hO356 (hu19.tr hu356) rfl (by decide)
                    have t423 := fI_keep (k := 38) hO0 hO356 (hu19.tr hu356) rfl (by decide)
                    refine ur_inl rfl (rcv_of hc411) (Nat.le_of_ble_eq_true rfl) (Nat.le_of_ble_eq_true rfl) (sf_X12_canSee hO356 (hX0.un hO0 hO356 (hu19.tr hu356) (by decide)) _ (by show 0 ≤ a1.toInt ∧ a1.toInt ≤ 11; omega) _ _ _ (by omega) (fun w424 h426 hr425 hO426 hv426 => ?_))
                    have hu426 := hv426
                    obtain ⟨b427, rfl⟩ := hr425
                    show uRun _ (uCall Mt _) _ 102 (_, [(.inl (bi b427)), (.inl x343)], _, _, _)
                    refine ur_eqB rfl (fun c428 => ?_) (fun c428 => ?_)
                    · refine ur_push rfl ?_
                      refine ur_binV rfl (fun x429 e430 => ?_)
                      have z431 := any_r x343
                      have t432 := ti_add e430 (by omega) (by omega)
                      refine ur_svIk [some (.inr (.inr (some 69))), some (.inl a1), some (.inl a2), some (.inl x11), some (.inl x429), some (.inl x324), some (.inl x331), some (.inl x344)] rfl rfl ?_
                      refine ur_incV (fun z => [some (.inr (.inr (some 69))), some (.inl a1), some (.inl a2), some (.inl x11), some (.inl x429), some (.inl x324), some (.inl x331), some (.inl z)]) rfl rfl (fun _ => rfl) (fun x433 e434 => ?_)
                      have t435 := ti_add e434 (by omega) (by omega)
                      refine ur_go rfl ?_
                      obtain ⟨fs436, hc437⟩ := hO426.mod
                      obtain ⟨f438, p439, t440⟩ := mf_4 hO426 hc437
                      have t441 := fI_of hc437 p439
                      obtain ⟨f442, p443, t444⟩ := mf_38 hO426 hc437
                      have t445 := fI_of hc437 p443
                      have z446 := any_r x433
                      exact ih347 x429 x433 _ hO426 (hu356.tr hu426) (by omega) (by omega)
                    · refine ur_push rfl ?_
                      refine ur_go rfl ?_
                      refine ur_binV rfl (fun x447 e448 => ?_)
                      have z449 := any_r x343
                      have t450 := ti_add e448 (by omega) (by omega)
                      refine ur_svIk [some (.inr (.inr (some 69))), some (.inl a1), some (.inl a2), some (.inl x11), some (.inl x447), some (.inl x324), some (.inl x331), some (.inl x344)] rfl rfl ?_
                      refine ur_incV (fun z => [some (.inr (.inr (some 69))), some (.inl a1), some (.inl a2), some (.inl x11), some (.inl x447), some (.inl x324), some (.inl x331), some (.inl z)]) rfl rfl (fun _ => rfl) (fun x451 e452 => ?_)
                      have t453 := ti_add e452 (by omega) (by omega)
                      refine ur_go rfl ?_
                      obtain ⟨fs454, hc455⟩ := hO426.mod
                      obtain ⟨f456, p457, t458⟩ := mf_4 hO426 hc455
                      have t459 := fI_of hc455 p457
                      obtain ⟨f460, p461, t462⟩ := mf_38 hO426 hc455
                      have t463 := fI_of hc455 p461
                      have z464 := any_r x451
                      exact ih347 x447 x451 _ hO426 (hu356.tr hu426) (by omega) (by omega)
            have z465 := any_r x324
            exact L345 _ 0 x324 _ hO19 un.rf (by omega) (Nat.lt_succ_self _)
          · have t466 := le_no c339
            refine ur_ldI rfl rfl ?_
            refine ur_push rfl ?_
            refine ur_binV rfl (fun x467 e468 => ?_)
            have t469 := ti_add e468 (by omega) (by omega)
            refine ur_go rfl ?_
            refine ur_svIk [some (.inr (.inr (some 69))), some (.inl a1), some (.inl a2), some (.inl x11), some (.inl 0), some (.inl x324), some (.inl x467), u15] rfl rfl ?_
            refine ur_ldI rfl rfl ?_
            refine ur_svIk [some (.inr (.inr (some 69))), some (.inl a1), some (.inl a2), some (.inl x11), some (.inl 0), some (.inl x324), some (.inl x467), some (.inl x324)] rfl rfl ?_
            obtain ⟨f475, p476, t477⟩ := mf_4 hO19 hc23
            have t478 := fI_of hc23 p476
            obtain ⟨f479, p480, t481⟩ := mf_38 hO19 hc23
            have t482 := fI_of hc23 p480
            have L472 : ∀ (m473 : Nat) (x470 : Int32) (x471 : Int32) (h483 : aH) , OK h483 → un [] h19 h483 → ((-120 ≤ x471.toInt ∧ x471.toInt ≤ 2147483647)) → ((2147483648 - x471.toInt).toNat) < m473 → uRun oX12_isWatched (uCall Mt (d + 5)) Q 73 ([some (.inr (.inr (some 69))), some (.inl a1), some (.inl a2), some (.inl x11), some (.inl x470), some (.inl x324), some (.inl x467), some (.inl x471)], [], h483, kc, ks) := by
              intro m473
              induction m473 with
              | zero => intro x470 x471 h483 hO483 hu483 iv484 mm485; omega
              | succ m473 ih474 =>
                intro x470 x471 h483 hO483 hu483 iv484 mm485
                refine ur_ldI rfl rfl ?_
                refine ur_ldI rfl rfl ?_
                have z486 := any_r x471
                have z487 := any_r x467
                refine ur_if2 rfl (fun c488 => ?_) (fun c488 => ?_)
                · have t489 := lt_to c488
                  refine ur_ldI rfl rfl ?_
                  refine ur_push rfl ?_
                  refine ur_if2 rfl (fun c490 => ?_) (fun c490 => ?_)
                  · have t491 := lt_to c490
                    refine ur_incV (fun z => [some (.inr (.inr (some 69))), some (.inl a1), some (.inl a2), some (.inl z), some (.inl x470), some (.inl x324), some (.inl x467), some (.inl x471)]) rfl rfl (fun _ => rfl) (fun x492 e493 => ?_)
                    have t494 := ti_add e493 (by omega) (by omega)
                    refine ur_go rfl ?_
                    obtain ⟨fs495, hc496⟩ := hO483.mod
                    obtain ⟨f497, p498, t499⟩ := mf_4 hO483 hc496
                    have t500 := fI_of hc496 p498
                    obtain ⟨f501, p502, t503⟩ := mf_38 hO483 hc496
                    have t504 := fI_of hc496 p502
                    have z505 := any_r x492
                    exact ih18 x492 _ _ _ _ _ hO483 (hu19.tr hu483) (by omega) (by omega)
                  · have t506 := lt_no c490
                    refine ur_push rfl ?_
                    obtain ⟨fs507, hc508⟩ := hO483.mod
                    obtain ⟨f509, p510, t511⟩ := mf_4 hO483 hc508
                    have t512 := fI_of hc508 p510
                    obtain ⟨f513, p514, t515⟩ := mf_38 hO483 hc508
                    have t516 := fI_of hc508 p514
                    have t517 := fI_keep (k := 4) hO0 hO483 (hu19.tr hu483) rfl (by decide)
                    have t518 := fI_keep (k := 38) hO0 hO483 (hu19.tr hu483) rfl (by decide)
                    exact ur_ret rfl rfl (hQ _ _ ⟨true, rfl⟩ hO483 (hu19.tr hu483))
                · have t519 := lt_no c488
                  refine ur_ldI rfl rfl ?_
                  refine ur_push rfl ?_
                  refine ur_if2 rfl (fun c520 => ?_) (fun c520 => ?_)
                  · have t521 := le_to c520
                    refine ur_ldI rfl rfl ?_
                    refine ur_push rfl ?_
                    refine ur_if2 rfl (fun c522 => ?_) (fun c522 => ?_)
                    · have t523 := lt_to c522
                      exfalso
                      omega
                    · have t524 := lt_no c522
                      refine ur_push rfl ?_
                      obtain ⟨fs525, hc526⟩ := hO483.mod
                      obtain ⟨f527, p528, t529⟩ := mf_4 hO483 hc526
                      have t530 := fI_of hc526 p528
                      obtain ⟨f531, p532, t533⟩ := mf_38 hO483 hc526
                      have t534 := fI_of hc526 p532
                      have t535 := fI_keep (k := 4) hO0 hO483 (hu19.tr hu483) rfl (by decide)
                      have t536 := fI_keep (k := 38) hO0 hO483 (hu19.tr hu483) rfl (by decide)
                      exact ur_ret rfl rfl (hQ _ _ ⟨true, rfl⟩ hO483 (hu19.tr hu483))
                  · have t537 := le_no c520
                    refine ur_ldI rfl rfl ?_
                    refine ur_ldA rfl rfl ?_
                    refine ur_ldI rfl rfl ?_
                    refine ur_ldI rfl rfl ?_
                    refine ur_ldA rfl rfl ?_
                    obtain ⟨fs538, hc539⟩ := hO483.mod
                    refine ur_get rfl hc539 (mf_35 hO483 hc539) ?_
                    refine ur_ldI rfl rfl ?_
                    obtain ⟨xs541, hc540, hn542, he543⟩ := hO483.int (hO483.fix 93 (by decide) rfl)
                    refine ur_aldV rfl hc540 hn542 (by omega) (fun x544 hx545 => ?_)
                    refine ur_ldI rfl rfl ?_
                    obtain ⟨f546, p547, t548⟩ := mf_4 hO483 hc539
                    have t549 := fI_of hc539 p547
                    have t550 := fI_keep (k := 4) hO0 hO483 (hu19.tr hu483) rfl (by decide)
                    have t551 := fI_keep (k := 38) hO0 hO483 (hu19.tr hu483) rfl (by decide)
                    refine ur_inl rfl (rcv_of hc539) (Nat.le_of_ble_eq_true rfl) (Nat.le_of_ble_eq_true rfl) (sf_X12_canSee hO483 (hX0.un hO0 hO483 (hu19.tr hu483) (by decide)) _ (by show 0 ≤ a1.toInt ∧ a1.toInt ≤ 11; omega) _ _ _ (by omega) (fun w552 h554 hr553 hO554 hv554 => ?_))
                    have hu554 := hv554
                    obtain ⟨b555, rfl⟩ := hr553
                    show uRun _ (uCall Mt _) _ 102 (_, [(.inl (bi b555)), (.inl x470)], _, _, _)
                    refine ur_eqB rfl (fun c556 => ?_) (fun c556 => ?_)
                    · refine ur_push rfl ?_
                      refine ur_binV rfl (fun x557 e558 => ?_)
                      have z559 := any_r x470
                      have t560 := ti_add e558 (by omega) (by omega)
                      refine ur_svIk [some (.inr (.inr (some 69))), some (.inl a1), some (.inl a2), some (.inl x11), some (.inl x557), some (.inl x324), some (.inl x467), some (.inl x471)] rfl rfl ?_
                      refine ur_incV (fun z => [some (.inr (.inr (some 69))), some (.inl a1), some (.inl a2), some (.inl x11), some (.inl x557), some (.inl x324), some (.inl x467), some (.inl z)]) rfl rfl (fun _ => rfl) (fun x561 e562 => ?_)
                      have t563 := ti_add e562 (by omega) (by omega)
                      refine ur_go rfl ?_
                      obtain ⟨fs564, hc565⟩ := hO554.mod
                      obtain ⟨f566, p567, t568⟩ := mf_4 hO554 hc565
                      have t569 := fI_of hc565 p567
                      obtain ⟨f570, p571, t572⟩ := mf_38 hO554 hc565
                      have t573 := fI_of hc565 p571
                      have z574 := any_r x561
                      exact ih474 x557 x561 _ hO554 (hu483.tr hu554) (by omega) (by omega)
                    · refine ur_push rfl ?_
                      refine ur_go rfl ?_
                      refine ur_binV rfl (fun x575 e576 => ?_)
                      have z577 := any_r x470
                      have t578 := ti_add e576 (by omega) (by omega)
                      refine ur_svIk [some (.inr (.inr (some 69))), some (.inl a1), some (.inl a2), some (.inl x11), some (.inl x575), some (.inl x324), some (.inl x467), some (.inl x471)] rfl rfl ?_
                      refine ur_incV (fun z => [some (.inr (.inr (some 69))), some (.inl a1), some (.inl a2), some (.inl x11), some (.inl x575), some (.inl x324), some (.inl x467), some (.inl z)]) rfl rfl (fun _ => rfl) (fun x579 e580 => ?_)
                      have t581 := ti_add e580 (by omega) (by omega)
                      refine ur_go rfl ?_
                      obtain ⟨fs582, hc583⟩ := hO554.mod
                      obtain ⟨f584, p585, t586⟩ := mf_4 hO554 hc583
                      have t587 := fI_of hc583 p585
                      obtain ⟨f588, p589, t590⟩ := mf_38 hO554 hc583
                      have t591 := fI_of hc583 p589
                      have z592 := any_r x579
                      exact ih474 x575 x579 _ hO554 (hu483.tr hu554) (by omega) (by omega)
            have z593 := any_r x324
            exact L472 _ 0 x324 _ hO19 un.rf (by omega) (Nat.lt_succ_self _)
  exact L16 _ 0 (none) (none) (none) (none) _ hO0 un.rf (by omega) (Nat.lt_succ_self _)

set_option maxRecDepth 20000 in
set_option maxHeartbeats 4000000 in
theorem sf_X12_isTold {d kc ks : Nat} {h0 : aH} {Q : Option aV → aH → Prop} (hO0 : OK h0) (hX0 : SX h0) (a1 : Int32) (b1 : 0 ≤ a1.toInt ∧ a1.toInt ≤ 11) (a2 : Int32) (b2 : 0 ≤ a2.toInt ∧ a2.toInt ≤ 999999) (pre0 : a1.toInt < fI h0 4) (hQ : ∀ r h', (∃ q, r = some (.inl (bi q))) → OK h' → un [] h0 h' → Q r h') : uCall Mt (d + 8) 261 [(.inr (.inr (some 69))), (.inl a1), (.inl a2)] h0 kc ks Q := by
  have l_0 : ((0) : Int32).toInt = 0 := by decide
  have l_1 : ((1) : Int32).toInt = 1 := by decide
  refine uc_ink [some (.inr (.inr (some 69))), some (.inl a1), some (.inl a2), none] mt_261 (Nat.le_of_ble_eq_true rfl) rfl ?_
  obtain ⟨fs1, hc2⟩ := hO0.mod
  obtain ⟨f3, p4, t5⟩ := mf_4 hO0 hc2
  have t6 := fI_of hc2 p4
  obtain ⟨f7, p8, t9⟩ := mf_38 hO0 hc2
  have t10 := fI_of hc2 p8
  refine ur_push rfl ?_
  refine ur_svIk [some (.inr (.inr (some 69))), some (.inl a1), some (.inl a2), some (.inl 0)] rfl rfl ?_
  have L12 : ∀ (m13 : Nat) (x11 : Int32) (h15 : aH) , OK h15 → un [] h0 h15 → ((0 ≤ x11.toInt ∧ x11.toInt ≤ 2147483647)) → ((2147483648 - x11.toInt).toNat) < m13 → uRun oX12_isTold (uCall Mt (d + 7)) Q 2 ([some (.inr (.inr (some 69))), some (.inl a1), some (.inl a2), some (.inl x11)], [], h15, kc, ks) := by
    intro m13
    induction m13 with
    | zero => intro x11 h15 hO15 hu15 iv16 mm17; omega
    | succ m13 ih14 =>
      intro x11 h15 hO15 hu15 iv16 mm17
      refine ur_ldI rfl rfl ?_
      refine ur_ldA rfl rfl ?_
      obtain ⟨fs18, hc19⟩ := hO15.mod
      obtain ⟨f20, p21, t22⟩ := mf_38 hO15 hc19
      have t23 := fI_of hc19 p21
      have t24 := fI_keep (k := 4) hO0 hO15 hu15 rfl (by decide)
      have t25 := fI_keep (k := 38) hO0 hO15 hu15 rfl (by decide)
      refine ur_get rfl hc19 p21 ?_
      have z26 := any_r x11
      have z27 := any_r f20
      refine ur_if2 rfl (fun c28 => ?_) (fun c28 => ?_)
      · have t29 := le_to c28
        refine ur_push rfl ?_
        obtain ⟨f30, p31, t32⟩ := mf_4 hO15 hc19
        have t33 := fI_of hc19 p31
        exact ur_ret rfl rfl (hQ _ _ ⟨false, rfl⟩ hO15 hu15)
      · have t34 := le_no c28
        refine ur_ldA rfl rfl ?_
        refine ur_ldI rfl rfl ?_
        refine ur_ldI rfl rfl ?_
        refine ur_ldI rfl rfl ?_
        refine ur_push rfl ?_
        refine ur_push rfl ?_
        obtain ⟨f35, p36, t37⟩ := mf_4 hO15 hc19
        have t38 := fI_of hc19 p36
        refine ur_inl rfl (rcv_of hc19) (Nat.le_of_ble_eq_true rfl) (Nat.le_of_ble_eq_true rfl) (sf_X12_fitDay hO15 (hX0.un hO0 hO15 hu15 (by decide)) _ (by show 0 ≤ x11.toInt ∧ x11.toInt ≤ 149; omega) _ (by show 0 ≤ a1.toInt ∧ a1.toInt ≤ 11; omega) _ (by show -20000 ≤ a2.toInt ∧ a2.toInt ≤ 1020000; omega) _ (by show -400 ≤ (0 : Int32).toInt ∧ (0 : Int32).toInt ≤ 400; omega) _ (by show 0 ≤ (0 : Int32).toInt ∧ (0 : Int32).toInt ≤ 1020000; omega) (by omega) (by omega) (fun w39 h41 hr40 hO41 hv41 => ?_))
        have hu41 := hv41
        obtain ⟨x42, rfl, t43⟩ := hr40
        show uRun _ (uCall Mt _) _ 19 (_, [(.inl x42)], _, _, _)
        refine ur_if1 rfl (fun c44 => ?_) (fun c44 => ?_)
        · have t45 := lt_to c44
          refine ur_incV (fun z => [some (.inr (.inr (some 69))), some (.inl a1), some (.inl a2), some (.inl z)]) rfl rfl (fun _ => rfl) (fun x46 e47 => ?_)
          have t48 := ti_add e47 (by omega) (by omega)
          refine ur_go rfl ?_
          obtain ⟨fs49, hc50⟩ := hO41.mod
          obtain ⟨f51, p52, t53⟩ := mf_4 hO41 hc50
          have t54 := fI_of hc50 p52
          obtain ⟨f55, p56, t57⟩ := mf_38 hO41 hc50
          have t58 := fI_of hc50 p56
          have z59 := any_r x46
          exact ih14 x46 _ hO41 (hu15.tr hu41) (by omega) (by omega)
        · have t60 := lt_no c44
          refine ur_push rfl ?_
          obtain ⟨fs61, hc62⟩ := hO41.mod
          obtain ⟨f63, p64, t65⟩ := mf_4 hO41 hc62
          have t66 := fI_of hc62 p64
          obtain ⟨f67, p68, t69⟩ := mf_38 hO41 hc62
          have t70 := fI_of hc62 p68
          have t71 := fI_keep (k := 4) hO0 hO41 (hu15.tr hu41) rfl (by decide)
          have t72 := fI_keep (k := 38) hO0 hO41 (hu15.tr hu41) rfl (by decide)
          exact ur_ret rfl rfl (hQ _ _ ⟨true, rfl⟩ hO41 (hu15.tr hu41))
  exact L12 _ 0 _ hO0 un.rf (by omega) (Nat.lt_succ_self _)

set_option maxRecDepth 20000 in
set_option maxHeartbeats 4000000 in
theorem sf_X12_findStory {d kc ks : Nat} {h0 : aH} {Q : Option aV → aH → Prop} (hO0 : OK h0) (hX0 : SX h0) (a1 : Int32) (hQ : ∀ r h', (r = none) → OK h' → un [80, 81] h0 h' → Q r h') : uCall Mt (d + 9) 262 [(.inr (.inr (some 69))), (.inl a1)] h0 kc ks Q := by
  have l_m60 : ((-60) : Int32).toInt = -60 := by decide
  have l_0 : ((0) : Int32).toInt = 0 := by decide
  have l_1 : ((1) : Int32).toInt = 1 := by decide
  have l_3 : ((3) : Int32).toInt = 3 := by decide
  have l_60 : ((60) : Int32).toInt = 60 := by decide
  refine uc_ink [some (.inr (.inr (some 69))), some (.inl a1), none, none, none] mt_262 (Nat.le_of_ble_eq_true rfl) rfl ?_
  obtain ⟨fs1, hc2⟩ := hO0.mod
  obtain ⟨f3, p4, t5⟩ := mf_4 hO0 hc2
  have t6 := fI_of hc2 p4
  obtain ⟨f7, p8, t9⟩ := mf_38 hO0 hc2
  have t10 := fI_of hc2 p8
  refine ur_push rfl ?_
  refine ur_svIk [some (.inr (.inr (some 69))), some (.inl a1), some (.inl 0), none, none] rfl rfl ?_
  have L13 : ∀ (m14 : Nat) (x11 : Int32) (u12 : Option aV) (h16 : aH) , OK h16 → un [80, 81] h0 h16 → ((0 ≤ x11.toInt ∧ x11.toInt ≤ 2147483647)) → ((2147483648 - x11.toInt).toNat) < m14 → uRun oX12_findStory (uCall Mt (d + 8)) Q 2 ([some (.inr (.inr (some 69))), some (.inl a1), some (.inl x11), u12, none], [], h16, kc, ks) := by
    intro m14
    induction m14 with
    | zero => intro x11 u12 h16 hO16 hu16 iv17 mm18; omega
    | succ m14 ih15 =>
      intro x11 u12 h16 hO16 hu16 iv17 mm18
      refine ur_ldI rfl rfl ?_
      refine ur_ldA rfl rfl ?_
      obtain ⟨fs19, hc20⟩ := hO16.mod
      obtain ⟨f21, p22, t23⟩ := mf_38 hO16 hc20
      have t24 := fI_of hc20 p22
      have t25 := fI_keep (k := 4) hO0 hO16 hu16 rfl (by decide)
      have t26 := fI_keep (k := 38) hO0 hO16 hu16 rfl (by decide)
      refine ur_get rfl hc20 p22 ?_
      have z27 := any_r x11
      have z28 := any_r f21
      refine ur_if2 rfl (fun c29 => ?_) (fun c29 => ?_)
      · have t30 := le_to c29
        refine ur_push rfl ?_
        refine ur_svIk [some (.inr (.inr (some 69))), some (.inl a1), some (.inl 0), u12, none] rfl rfl ?_
        obtain ⟨f37, p38, t39⟩ := mf_4 hO16 hc20
        have t40 := fI_of hc20 p38
        have L34 : ∀ (m35 : Nat) (x31 : Int32) (u32 : Option aV) (u33 : Option aV) (h41 : aH) , OK h41 → un [80, 81] h16 h41 → ((0 ≤ x31.toInt ∧ x31.toInt ≤ 2147483647)) → ((2147483648 - x31.toInt).toNat) < m35 → uRun oX12_findStory (uCall Mt (d + 8)) Q 87 ([some (.inr (.inr (some 69))), some (.inl a1), some (.inl x31), u32, u33], [], h41, kc, ks) := by
          intro m35
          induction m35 with
          | zero => intro x31 u32 u33 h41 hO41 hu41 iv42 mm43; omega
          | succ m35 ih36 =>
            intro x31 u32 u33 h41 hO41 hu41 iv42 mm43
            refine ur_ldI rfl rfl ?_
            refine ur_ldA rfl rfl ?_
            obtain ⟨fs44, hc45⟩ := hO41.mod
            obtain ⟨f46, p47, t48⟩ := mf_4 hO41 hc45
            have t49 := fI_of hc45 p47
            have t50 := fI_keep (k := 4) hO0 hO41 (hu16.tr hu41) rfl (by decide)
            have t51 := fI_keep (k := 38) hO0 hO41 (hu16.tr hu41) rfl (by decide)
            refine ur_get rfl hc45 p47 ?_
            have z52 := any_r x31
            have z53 := any_r f46
            refine ur_if2 rfl (fun c54 => ?_) (fun c54 => ?_)
            · have t55 := le_to c54
              obtain ⟨f56, p57, t58⟩ := mf_38 hO41 hc45
              have t59 := fI_of hc45 p57
              exact ur_ret0 rfl (hQ _ _ rfl hO41 (hu16.tr hu41))
            · have t60 := le_no c54
              refine ur_ldA rfl rfl ?_
              refine ur_get rfl hc45 (mf_56 hO41 hc45) ?_
              refine ur_ldI rfl rfl ?_
              refine ur_push rfl ?_
              obtain ⟨xs62, hc61, hn63, he64⟩ := hO41.int (hO41.fix 106 (by decide) rfl)
              refine ur_astV (W := [80, 81]) (m := 12) rfl hO41 hc61 (by decide) hn63 (by omega) (any_r _) (Or.inl rfl) (fun h67 hO67 hu67 d65 hc66 => ?_)
              refine ur_ldI rfl rfl ?_
              refine ur_ldI rfl rfl ?_
              refine ur_binV rfl (fun x68 e69 => ?_)
              have z70 := any_r a1
              refine ur_push rfl ?_
              refine ur_binV rfl (fun x71 e72 => ?_)
              have t73 := and_1 e72
              refine ur_if1 rfl (fun c74 => ?_) (fun c74 => ?_)
              · have t75 := ne_to c74
                refine ur_push rfl ?_
                refine ur_svIk [some (.inr (.inr (some 69))), some (.inl a1), some (.inl x31), some (.inl (-60)), u33] rfl rfl ?_
                have t81 := fI_of ((d65 _ (by decide)).trans hc45) p47
                obtain ⟨f82, p83, t84⟩ := mf_38 hO67 ((d65 _ (by decide)).trans hc45)
                have t85 := fI_of ((d65 _ (by decide)).trans hc45) p83
                have L78 : ∀ (m79 : Nat) (x76 : Int32) (u77 : Option aV) (h86 : aH) , OK h86 → un [80, 81] h67 h86 → ((-60 ≤ x76.toInt ∧ x76.toInt ≤ 2147483647)) → ((2147483648 - x76.toInt).toNat) < m79 → uRun oX12_findStory (uCall Mt (d + 8)) Q 116 ([some (.inr (.inr (some 69))), some (.inl a1), some (.inl x31), some (.inl x76), u77], [], h86, kc, ks) := by
                  intro m79
                  induction m79 with
                  | zero => intro x76 u77 h86 hO86 hu86 iv87 mm88; omega
                  | succ m79 ih80 =>
                    intro x76 u77 h86 hO86 hu86 iv87 mm88
                    refine ur_ldI rfl rfl ?_
                    refine ur_push rfl ?_
                    refine ur_if2 rfl (fun c89 => ?_) (fun c89 => ?_)
                    · have t90 := lt_to c89
                      refine ur_incV (fun z => [some (.inr (.inr (some 69))), some (.inl a1), some (.inl z), some (.inl x76), u77]) rfl rfl (fun _ => rfl) (fun x91 e92 => ?_)
                      have t93 := ti_add e92 (by omega) (by omega)
                      refine ur_go rfl ?_
                      obtain ⟨fs94, hc95⟩ := hO86.mod
                      obtain ⟨f96, p97, t98⟩ := mf_4 hO86 hc95
                      have t99 := fI_of hc95 p97
                      obtain ⟨f100, p101, t102⟩ := mf_38 hO86 hc95
                      have t103 := fI_of hc95 p101
                      have z104 := any_r x91
                      exact ih36 x91 _ _ _ hO86 (hu41.tr (hu67.tr hu86)) (by omega) (by omega)
                    · have t105 := lt_no c89
                      refine ur_ldA rfl rfl ?_
                      refine ur_ldI rfl rfl ?_
                      refine ur_ldI rfl rfl ?_
                      obtain ⟨fs106, hc107⟩ := hO86.mod
                      have t108 := fI_keep (k := 4) hO0 hO86 (hu16.tr (hu41.tr (hu67.tr hu86))) rfl (by decide)
                      have t109 := fI_keep (k := 38) hO0 hO86 (hu16.tr (hu41.tr (hu67.tr hu86))) rfl (by decide)
                      refine ur_inl rfl (rcv_of hc107) (Nat.le_of_ble_eq_true rfl) (Nat.le_of_ble_eq_true rfl) (sf_X12_passOf hO86 (hX0.un hO0 hO86 (hu16.tr (hu41.tr (hu67.tr hu86))) (by decide)) _ (by show 0 ≤ x31.toInt ∧ x31.toInt ≤ 11; omega) _ (by show -60 ≤ x76.toInt ∧ x76.toInt ≤ 60; omega) (fun w110 h112 hr111 hO112 hv112 => ?_))
                      have hu112 := hv112
                      obtain ⟨x113, rfl, t114⟩ := hr111
                      show uRun _ (uCall Mt _) _ 128 (_, [(.inl x113)], _, _, _)
                      refine ur_svIk [some (.inr (.inr (some 69))), some (.inl a1), some (.inl x31), some (.inl x76), some (.inl x113)] rfl rfl ?_
                      refine ur_ldI rfl rfl ?_
                      refine ur_if1 rfl (fun c115 => ?_) (fun c115 => ?_)
                      · have t116 := lt_to c115
                        refine ur_incV (fun z => [some (.inr (.inr (some 69))), some (.inl a1), some (.inl x31), some (.inl z), some (.inl x113)]) rfl rfl (fun _ => rfl) (fun x117 e118 => ?_)
                        have z119 := any_r x76
                        have t120 := ti_add e118 (by omega) (by omega)
                        refine ur_go rfl ?_
                        obtain ⟨fs121, hc122⟩ := hO112.mod
                        obtain ⟨f123, p124, t125⟩ := mf_4 hO112 hc122
                        have t126 := fI_of hc122 p124
                        obtain ⟨f127, p128, t129⟩ := mf_38 hO112 hc122
                        have t130 := fI_of hc122 p128
                        have z131 := any_r x117
                        exact ih80 x117 _ _ hO112 (hu86.tr hu112) (by omega) (by omega)
                      · have t132 := lt_no c115
                        refine ur_ldA rfl rfl ?_
                        refine ur_ldI rfl rfl ?_
                        refine ur_ldI rfl rfl ?_
                        obtain ⟨fs133, hc134⟩ := hO112.mod
                        obtain ⟨f135, p136, t137⟩ := mf_4 hO112 hc134
                        have t138 := fI_of hc134 p136
                        obtain ⟨f139, p140, t141⟩ := mf_38 hO112 hc134
                        have t142 := fI_of hc134 p140
                        have t143 := fI_keep (k := 4) hO0 hO112 (hu16.tr (hu41.tr (hu67.tr (hu86.tr hu112)))) rfl (by decide)
                        have t144 := fI_keep (k := 38) hO0 hO112 (hu16.tr (hu41.tr (hu67.tr (hu86.tr hu112)))) rfl (by decide)
                        refine ur_inl rfl (rcv_of hc134) (Nat.le_of_ble_eq_true rfl) (Nat.le_of_ble_eq_true rfl) (sf_X12_isWatched hO112 (hX0.un hO0 hO112 (hu16.tr (hu41.tr (hu67.tr (hu86.tr hu112)))) (by decide)) _ (by show 0 ≤ x31.toInt ∧ x31.toInt ≤ 11; omega) _ (by show 0 ≤ x113.toInt ∧ x113.toInt ≤ 999999; omega) (by omega) (fun w145 h147 hr146 hO147 hv147 => ?_))
                        have hu147 : un [80, 81] h112 h147 := hv147.mono (by decide)
                        obtain ⟨b148, rfl⟩ := hr146
                        show uRun _ (uCall Mt _) _ 142 (_, [(.inl (bi b148))], _, _, _)
                        refine ur_eqB rfl (fun c149 => ?_) (fun c149 => ?_)
                        · refine ur_incV (fun z => [some (.inr (.inr (some 69))), some (.inl a1), some (.inl x31), some (.inl z), some (.inl x113)]) rfl rfl (fun _ => rfl) (fun x150 e151 => ?_)
                          have z152 := any_r x76
                          have t153 := ti_add e151 (by omega) (by omega)
                          refine ur_go rfl ?_
                          obtain ⟨fs154, hc155⟩ := hO147.mod
                          obtain ⟨f156, p157, t158⟩ := mf_4 hO147 hc155
                          have t159 := fI_of hc155 p157
                          obtain ⟨f160, p161, t162⟩ := mf_38 hO147 hc155
                          have t163 := fI_of hc155 p161
                          have z164 := any_r x150
                          exact ih80 x150 _ _ hO147 (hu86.tr (hu112.tr hu147)) (by omega) (by omega)
                        · refine ur_ldA rfl rfl ?_
                          refine ur_ldI rfl rfl ?_
                          refine ur_ldI rfl rfl ?_
                          obtain ⟨fs165, hc166⟩ := hO147.mod
                          obtain ⟨f167, p168, t169⟩ := mf_4 hO147 hc166
                          have t170 := fI_of hc166 p168
                          obtain ⟨f171, p172, t173⟩ := mf_38 hO147 hc166
                          have t174 := fI_of hc166 p172
                          have t175 := fI_keep (k := 4) hO0 hO147 (hu16.tr (hu41.tr (hu67.tr (hu86.tr (hu112.tr hu147))))) rfl (by decide)
                          have t176 := fI_keep (k := 38) hO0 hO147 (hu16.tr (hu41.tr (hu67.tr (hu86.tr (hu112.tr hu147))))) rfl (by decide)
                          refine ur_inl rfl (rcv_of hc166) (Nat.le_of_ble_eq_true rfl) (Nat.le_of_ble_eq_true rfl) (sf_X12_isTold hO147 (hX0.un hO0 hO147 (hu16.tr (hu41.tr (hu67.tr (hu86.tr (hu112.tr hu147))))) (by decide)) _ (by show 0 ≤ x31.toInt ∧ x31.toInt ≤ 11; omega) _ (by show 0 ≤ x113.toInt ∧ x113.toInt ≤ 999999; omega) (by omega) (fun w177 h179 hr178 hO179 hv179 => ?_))
                          have hu179 : un [80, 81] h147 h179 := hv179.mono (by decide)
                          obtain ⟨b180, rfl⟩ := hr178
                          show uRun _ (uCall Mt _) _ 152 (_, [(.inl (bi b180))], _, _, _)
                          refine ur_neB rfl (fun c181 => ?_) (fun c181 => ?_)
                          · refine ur_incV (fun z => [some (.inr (.inr (some 69))), some (.inl a1), some (.inl x31), some (.inl z), some (.inl x113)]) rfl rfl (fun _ => rfl) (fun x182 e183 => ?_)
                            have z184 := any_r x76
                            have t185 := ti_add e183 (by omega) (by omega)
                            refine ur_go rfl ?_
                            obtain ⟨fs186, hc187⟩ := hO179.mod
                            obtain ⟨f188, p189, t190⟩ := mf_4 hO179 hc187
                            have t191 := fI_of hc187 p189
                            obtain ⟨f192, p193, t194⟩ := mf_38 hO179 hc187
                            have t195 := fI_of hc187 p193
                            have z196 := any_r x182
                            exact ih80 x182 _ _ hO179 (hu86.tr (hu112.tr (hu147.tr hu179))) (by omega) (by omega)
                          · refine ur_ldA rfl rfl ?_
                            obtain ⟨fs197, hc198⟩ := hO179.mod
                            refine ur_get rfl hc198 (mf_56 hO179 hc198) ?_
                            refine ur_ldI rfl rfl ?_
                            refine ur_dup2 rfl rfl rfl ?_
                            obtain ⟨xs200, hc199, hn201, he202⟩ := hO179.int (hO179.fix 106 (by decide) rfl)
                            refine ur_aldV rfl hc199 hn201 (by omega) (fun x203 hx204 => ?_)
                            refine ur_push rfl ?_
                            refine ur_binV rfl (fun x205 e206 => ?_)
                            have z207 := any_r x203
                            refine ur_astV (W := [80, 81]) (m := 12) rfl hO179 hc199 (by decide) hn201 (by omega) (any_r _) (Or.inl rfl) (fun h210 hO210 hu210 d208 hc209 => ?_)
                            refine ur_incV (fun z => [some (.inr (.inr (some 69))), some (.inl a1), some (.inl x31), some (.inl z), some (.inl x113)]) rfl rfl (fun _ => rfl) (fun x211 e212 => ?_)
                            have z213 := any_r x76
                            have t214 := ti_add e212 (by omega) (by omega)
                            refine ur_go rfl ?_
                            obtain ⟨f215, p216, t217⟩ := mf_4 hO210 ((d208 _ (by decide)).trans hc198)
                            have t218 := fI_of ((d208 _ (by decide)).trans hc198) p216
                            obtain ⟨f219, p220, t221⟩ := mf_38 hO210 ((d208 _ (by decide)).trans hc198)
                            have t222 := fI_of ((d208 _ (by decide)).trans hc198) p220
                            have z223 := any_r x211
                            exact ih80 x211 _ _ hO210 (hu86.tr (hu112.tr (hu147.tr (hu179.tr hu210)))) (by omega) (by omega)
                exact L78 _ (-60) (u33) _ hO67 un.rf (by omega) (Nat.lt_succ_self _)
              · have t224 := ne_no c74
                refine ur_go rfl ?_
                refine ur_incV (fun z => [some (.inr (.inr (some 69))), some (.inl a1), some (.inl z), u32, u33]) rfl rfl (fun _ => rfl) (fun x225 e226 => ?_)
                have t227 := ti_add e226 (by omega) (by omega)
                refine ur_go rfl ?_
                have t228 := fI_of ((d65 _ (by decide)).trans hc45) p47
                obtain ⟨f229, p230, t231⟩ := mf_38 hO67 ((d65 _ (by decide)).trans hc45)
                have t232 := fI_of ((d65 _ (by decide)).trans hc45) p230
                have z233 := any_r x225
                exact ih36 x225 _ _ _ hO67 (hu41.tr hu67) (by omega) (by omega)
        exact L34 _ 0 (u12) (none) _ hO16 un.rf (by omega) (Nat.lt_succ_self _)
      · have t234 := le_no c29
        refine ur_ldA rfl rfl ?_
        refine ur_get rfl hc20 (mf_55 hO16 hc20) ?_
        refine ur_ldI rfl rfl ?_
        refine ur_push rfl ?_
        obtain ⟨xs236, hc235, hn237, he238⟩ := hO16.int (hO16.fix 105 (by decide) rfl)
        refine ur_astV (W := [80, 81]) (m := 150) rfl hO16 hc235 (by decide) hn237 (by omega) (any_r _) (Or.inl rfl) (fun h241 hO241 hu241 d239 hc240 => ?_)
        refine ur_ldA rfl rfl ?_
        refine ur_get rfl ((d239 _ (by decide)).trans hc20) (mf_39 hO241 ((d239 _ (by decide)).trans hc20)) ?_
        refine ur_ldI rfl rfl ?_
        obtain ⟨xs243, hc242, hn244, he245⟩ := hO241.int (hO241.fix 96 (by decide) rfl)
        refine ur_aldV rfl hc242 hn244 (by omega) (fun x246 hx247 => ?_)
        have t248 : 0 ≤ x246.toInt ∧ x246.toInt ≤ 7 := he245 _ _ hx247
        refine ur_push rfl ?_
        refine ur_if2 rfl (fun c249 => ?_) (fun c249 => ?_)
        · have t250 := ne_to c249
          refine ur_push rfl ?_
          refine ur_svIk [some (.inr (.inr (some 69))), some (.inl a1), some (.inl x11), some (.inl 0), none] rfl rfl ?_
          obtain ⟨f255, p256, t257⟩ := mf_4 hO241 ((d239 _ (by decide)).trans hc20)
          have t258 := fI_of ((d239 _ (by decide)).trans hc20) p256
          have t259 := fI_of ((d239 _ (by decide)).trans hc20) p22
          have L252 : ∀ (m253 : Nat) (x251 : Int32) (h260 : aH) , OK h260 → un [80, 81] h241 h260 → ((0 ≤ x251.toInt ∧ x251.toInt ≤ 2147483647)) → ((2147483648 - x251.toInt).toNat) < m253 → uRun oX12_findStory (uCall Mt (d + 8)) Q 32 ([some (.inr (.inr (some 69))), some (.inl a1), some (.inl x11), some (.inl x251), none], [], h260, kc, ks) := by
            intro m253
            induction m253 with
            | zero => intro x251 h260 hO260 hu260 iv261 mm262; omega
            | succ m253 ih254 =>
              intro x251 h260 hO260 hu260 iv261 mm262
              refine ur_ldI rfl rfl ?_
              refine ur_ldA rfl rfl ?_
              obtain ⟨fs263, hc264⟩ := hO260.mod
              obtain ⟨f265, p266, t267⟩ := mf_4 hO260 hc264
              have t268 := fI_of hc264 p266
              have t269 := fI_keep (k := 4) hO0 hO260 (hu16.tr (hu241.tr hu260)) rfl (by decide)
              have t270 := fI_keep (k := 38) hO0 hO260 (hu16.tr (hu241.tr hu260)) rfl (by decide)
              refine ur_get rfl hc264 p266 ?_
              have z271 := any_r x251
              have z272 := any_r f265
              refine ur_if2 rfl (fun c273 => ?_) (fun c273 => ?_)
              · have t274 := le_to c273
                refine ur_incV (fun z => [some (.inr (.inr (some 69))), some (.inl a1), some (.inl z), some (.inl x251), none]) rfl rfl (fun _ => rfl) (fun x275 e276 => ?_)
                have t277 := ti_add e276 (by omega) (by omega)
                refine ur_go rfl ?_
                obtain ⟨f278, p279, t280⟩ := mf_38 hO260 hc264
                have t281 := fI_of hc264 p279
                have z282 := any_r x275
                exact ih15 x275 _ _ hO260 (hu16.tr (hu241.tr hu260)) (by omega) (by omega)
              · have t283 := le_no c273
                refine ur_ldI rfl rfl ?_
                refine ur_ldI rfl rfl ?_
                refine ur_binV rfl (fun x284 e285 => ?_)
                have z286 := any_r a1
                refine ur_push rfl ?_
                refine ur_binV rfl (fun x287 e288 => ?_)
                have t289 := and_1 e288
                refine ur_push rfl ?_
                refine ur_if2 rfl (fun c290 => ?_) (fun c290 => ?_)
                · have t291 := ne_to c290
                  refine ur_incV (fun z => [some (.inr (.inr (some 69))), some (.inl a1), some (.inl x11), some (.inl z), none]) rfl rfl (fun _ => rfl) (fun x292 e293 => ?_)
                  have t294 := ti_add e293 (by omega) (by omega)
                  refine ur_go rfl ?_
                  obtain ⟨f295, p296, t297⟩ := mf_38 hO260 hc264
                  have t298 := fI_of hc264 p296
                  have z299 := any_r x292
                  exact ih254 x292 _ hO260 hu260 (by omega) (by omega)
                · have t300 := ne_no c290
                  refine ur_ldA rfl rfl ?_
                  refine ur_ldI rfl rfl ?_
                  refine ur_ldI rfl rfl ?_
                  refine ur_push rfl ?_
                  obtain ⟨f301, p302, t303⟩ := mf_38 hO260 hc264
                  have t304 := fI_of hc264 p302
                  refine ur_inl rfl (rcv_of hc264) (Nat.le_of_ble_eq_true rfl) (Nat.le_of_ble_eq_true rfl) (sf_X12_whoseBy hO260 (hX0.un hO0 hO260 (hu16.tr (hu241.tr hu260)) (by decide)) _ (by show 0 ≤ x11.toInt ∧ x11.toInt ≤ 149; omega) _ (by show 0 ≤ x251.toInt ∧ x251.toInt ≤ 11; omega) _ (by show -400 ≤ (0 : Int32).toInt ∧ (0 : Int32).toInt ≤ 400; omega) (by omega) (by omega) (fun w305 h307 hr306 hO307 hv307 => ?_))
                  have hu307 := hv307
                  obtain ⟨x308, rfl, t309⟩ := hr306
                  show uRun _ (uCall Mt _) _ 56 (_, [(.inl x308)], _, _, _)
                  refine ur_push rfl ?_
                  refine ur_if2 rfl (fun c310 => ?_) (fun c310 => ?_)
                  · have t311 := lt_to c310
                    refine ur_incV (fun z => [some (.inr (.inr (some 69))), some (.inl a1), some (.inl x11), some (.inl z), none]) rfl rfl (fun _ => rfl) (fun x312 e313 => ?_)
                    have t314 := ti_add e313 (by omega) (by omega)
                    refine ur_go rfl ?_
                    obtain ⟨fs315, hc316⟩ := hO307.mod
                    obtain ⟨f317, p318, t319⟩ := mf_4 hO307 hc316
                    have t320 := fI_of hc316 p318
                    obtain ⟨f321, p322, t323⟩ := mf_38 hO307 hc316
                    have t324 := fI_of hc316 p322
                    have z325 := any_r x312
                    exact ih254 x312 _ hO307 (hu260.tr hu307) (by omega) (by omega)
                  · have t326 := lt_no c310
                    refine ur_ldA rfl rfl ?_
                    obtain ⟨fs327, hc328⟩ := hO307.mod
                    refine ur_get rfl hc328 (mf_55 hO307 hc328) ?_
                    refine ur_ldI rfl rfl ?_
                    refine ur_dup2 rfl rfl rfl ?_
                    obtain ⟨xs330, hc329, hn331, he332⟩ := hO307.int (hO307.fix 105 (by decide) rfl)
                    refine ur_aldV rfl hc329 hn331 (by omega) (fun x333 hx334 => ?_)
                    refine ur_push rfl ?_
                    refine ur_ldI rfl rfl ?_
                    refine ur_binV rfl (fun x335 e336 => ?_)
                    refine ur_binV rfl (fun x337 e338 => ?_)
                    refine ur_astV (W := [80, 81]) (m := 150) rfl hO307 hc329 (by decide) hn331 (by omega) (any_r _) (Or.inl rfl) (fun h341 hO341 hu341 d339 hc340 => ?_)
                    refine ur_incV (fun z => [some (.inr (.inr (some 69))), some (.inl a1), some (.inl x11), some (.inl z), none]) rfl rfl (fun _ => rfl) (fun x342 e343 => ?_)
                    have t344 := ti_add e343 (by omega) (by omega)
                    refine ur_go rfl ?_
                    obtain ⟨f345, p346, t347⟩ := mf_4 hO341 ((d339 _ (by decide)).trans hc328)
                    have t348 := fI_of ((d339 _ (by decide)).trans hc328) p346
                    obtain ⟨f349, p350, t351⟩ := mf_38 hO341 ((d339 _ (by decide)).trans hc328)
                    have t352 := fI_of ((d339 _ (by decide)).trans hc328) p350
                    have z353 := any_r x342
                    exact ih254 x342 _ hO341 (hu260.tr (hu307.tr hu341)) (by omega) (by omega)
          exact L252 _ 0 _ hO241 un.rf (by omega) (Nat.lt_succ_self _)
        · have t354 := ne_no c249
          refine ur_go rfl ?_
          refine ur_incV (fun z => [some (.inr (.inr (some 69))), some (.inl a1), some (.inl z), u12, none]) rfl rfl (fun _ => rfl) (fun x355 e356 => ?_)
          have t357 := ti_add e356 (by omega) (by omega)
          refine ur_go rfl ?_
          obtain ⟨f358, p359, t360⟩ := mf_4 hO241 ((d239 _ (by decide)).trans hc20)
          have t361 := fI_of ((d239 _ (by decide)).trans hc20) p359
          have t362 := fI_of ((d239 _ (by decide)).trans hc20) p22
          have z363 := any_r x355
          exact ih15 x355 _ _ hO241 (hu16.tr hu241) (by omega) (by omega)
  exact L13 _ 0 (none) _ hO0 un.rf (by omega) (Nat.lt_succ_self _)

set_option maxRecDepth 20000 in
set_option maxHeartbeats 4000000 in
theorem sf_X12_judge {d kc ks : Nat} {h0 : aH} {Q : Option aV → aH → Prop} (hO0 : OK h0) (hX0 : SX h0) (a1 : Int32) (hQ : ∀ r h', (∃ x, r = some (.inl x)) → OK h' → un [80, 81] h0 h' → Q r h') : uCall Mt (d + 10) 264 [(.inr (.inr (some 69))), (.inl a1)] h0 kc ks Q := by
  have l_m2000000000 : ((-2000000000) : Int32).toInt = -2000000000 := by decide
  have l_0 : ((0) : Int32).toInt = 0 := by decide
  refine uc_ink [some (.inr (.inr (some 69))), some (.inl a1)] mt_264 (Nat.le_of_ble_eq_true rfl) rfl ?_
  obtain ⟨fs1, hc2⟩ := hO0.mod
  obtain ⟨f3, p4, t5⟩ := mf_4 hO0 hc2
  have t6 := fI_of hc2 p4
  obtain ⟨f7, p8, t9⟩ := mf_38 hO0 hc2
  have t10 := fI_of hc2 p8
  refine ur_ldI rfl rfl ?_
  refine ur_if1 rfl (fun c11 => ?_) (fun c11 => ?_)
  · have t12 := lt_to c11
    refine ur_push rfl ?_
    exact ur_ret rfl rfl (hQ _ _ ⟨_, rfl⟩ hO0 un.rf)
  · have t13 := lt_no c11
    refine ur_ldI rfl rfl ?_
    refine ur_ldA rfl rfl ?_
    refine ur_get rfl hc2 p4 ?_
    refine ur_binV rfl (fun x14 e15 => ?_)
    have z16 := any_r a1
    have z17 := any_r f3
    refine ur_if1 rfl (fun c18 => ?_) (fun c18 => ?_)
    · have t19 := eq_to c18
      refine ur_ldA rfl rfl ?_
      refine ur_ldI rfl rfl ?_
      refine ur_inl rfl (rcv_of hc2) (Nat.le_of_ble_eq_true rfl) (Nat.le_of_ble_eq_true rfl) (sf_X12_findStory hO0 hX0 _ (fun w20 h22 hr21 hO22 hv22 => ?_))
      have hu22 := hv22
      subst hr21
      show uRun _ (uCall Mt _) _ 21 (_, [], _, _, _)
      refine ur_ldA rfl rfl ?_
      refine ur_ldI rfl rfl ?_
      obtain ⟨fs23, hc24⟩ := hO22.mod
      have t25 := fI_keep (k := 4) hO0 hO22 hu22 rfl (by decide)
      have t26 := fI_keep (k := 38) hO0 hO22 hu22 rfl (by decide)
      refine ur_inl rfl (rcv_of hc24) (Nat.le_of_ble_eq_true rfl) (Nat.le_of_ble_eq_true rfl) (sf_X12_worthOf hO22 _ (fun w27 hr28 => ?_))
      obtain ⟨x29, rfl⟩ := hr28
      show uRun _ (uCall Mt _) _ 26 (_, [(.inl x29)], _, _, _)
      obtain ⟨f30, p31, t32⟩ := mf_4 hO22 hc24
      have t33 := fI_of hc24 p31
      obtain ⟨f34, p35, t36⟩ := mf_38 hO22 hc24
      have t37 := fI_of hc24 p35
      exact ur_ret rfl rfl (hQ _ _ ⟨_, rfl⟩ hO22 hu22)
    · have t38 := eq_no c18
      refine ur_push rfl ?_
      exact ur_ret rfl rfl (hQ _ _ ⟨_, rfl⟩ hO0 un.rf)

set_option maxRecDepth 20000 in
set_option maxHeartbeats 4000000 in
theorem sf_X12_bitsOf {d kc ks : Nat} {h0 : aH} {Q : Option aV → aH → Prop} (a0 : Int32) (hQ : ∀ r, (∃ x, r = some (.inl x)) → Q r h0) : uCall Mt (d + 1) 265 [(.inl a0)] h0 kc ks Q := by
  have l_0 : ((0) : Int32).toInt = 0 := by decide
  have l_1 : ((1) : Int32).toInt = 1 := by decide
  refine uc_ink [some (.inl a0), none, none] mt_265 (Nat.le_of_ble_eq_true rfl) rfl ?_
  refine ur_push rfl ?_
  refine ur_svIk [some (.inl a0), some (.inl 0), none] rfl rfl ?_
  refine ur_ldI rfl rfl ?_
  refine ur_svIk [some (.inl a0), some (.inl 0), some (.inl a0)] rfl rfl ?_
  have L3 : ∀ (m4 : Nat) (x1 : Int32) (x2 : Int32) , (True) → (x2.toBitVec.toNat) < m4 → uRun oX12_bitsOf (uCall Mt (d + 0)) Q 4 ([some (.inl a0), some (.inl x1), some (.inl x2)], [], h0, kc, ks) := by
    intro m4
    induction m4 with
    | zero => intro x1 x2 iv6 mm7; omega
    | succ m4 ih5 =>
      intro x1 x2 iv6 mm7
      refine ur_ldI rfl rfl ?_
      refine ur_if1 rfl (fun c8 => ?_) (fun c8 => ?_)
      · have t9 := eq_to c8
        refine ur_ldI rfl rfl ?_
        exact ur_ret rfl rfl (hQ _ ⟨_, rfl⟩ )
      · have t10 := eq_no c8
        refine ur_incV (fun z => [some (.inl a0), some (.inl z), some (.inl x2)]) rfl rfl (fun _ => rfl) (fun x11 e12 => ?_)
        have z13 := any_r x1
        refine ur_ldI rfl rfl ?_
        refine ur_ldI rfl rfl ?_
        refine ur_push rfl ?_
        refine ur_binV rfl (fun x14 e15 => ?_)
        have z16 := any_r x2
        refine ur_binV rfl (fun x17 e18 => ?_)
        have t19 := kern_lt (of_decide_eq_false c8) e15 e18
        refine ur_svIk [some (.inl a0), some (.inl x11), some (.inl x17)] rfl rfl ?_
        refine ur_go rfl ?_
        exact ih5 x11 x17 (by trivial) (by omega)
  exact L3 _ 0 a0 (by trivial) (Nat.lt_succ_self _)

set_option maxRecDepth 20000 in
set_option maxHeartbeats 4000000 in
theorem sf_X12_best {d kc ks : Nat} {h0 : aH} {Q : Option aV → aH → Prop} (hO0 : OK h0) (hX0 : SX h0) (a1 : Int32) (hQ : ∀ r h', (∃ x, r = some (.inl x)) → OK h' → un [80, 81] h0 h' → Q r h') : uCall Mt (d + 10) 266 [(.inr (.inr (some 69))), (.inl a1)] h0 kc ks Q := by
  have l_m2000000000 : ((-2000000000) : Int32).toInt = -2000000000 := by decide
  have l_0 : ((0) : Int32).toInt = 0 := by decide
  have l_1 : ((1) : Int32).toInt = 1 := by decide
  have l_6 : ((6) : Int32).toInt = 6 := by decide
  refine uc_ink [some (.inr (.inr (some 69))), some (.inl a1), none, none, none, none, none] mt_266 (Nat.le_of_ble_eq_true rfl) rfl ?_
  obtain ⟨fs1, hc2⟩ := hO0.mod
  obtain ⟨f3, p4, t5⟩ := mf_4 hO0 hc2
  have t6 := fI_of hc2 p4
  obtain ⟨f7, p8, t9⟩ := mf_38 hO0 hc2
  have t10 := fI_of hc2 p8
  refine ur_ldI rfl rfl ?_
  refine ur_push rfl ?_
  refine ur_push rfl ?_
  refine ur_callv rfl rfl (Nat.le_of_ble_eq_true rfl) (Nat.le_of_ble_eq_true rfl) rfl (sp_in _ _ _ _ _) ?_
  refine ur_neB rfl (fun c13 => ?_) (fun c13 => ?_)
  · have t14 := wi_toL c13 l_0 l_1
    refine ur_ldA rfl rfl ?_
    refine ur_get rfl hc2 p4 ?_
    refine ur_push rfl ?_
    refine ur_if2 rfl (fun c15 => ?_) (fun c15 => ?_)
    · have t16 := le_to c15
      refine ur_push rfl ?_
      refine ur_svIk [some (.inr (.inr (some 69))), some (.inl a1), some (.inl 6), none, none, none, none] rfl rfl ?_
      refine ur_ldA rfl rfl ?_
      refine ur_push rfl ?_
      refine ur_ldI rfl rfl ?_
      refine ur_binV rfl (fun x17 e18 => ?_)
      refine ur_push rfl ?_
      refine ur_binV rfl (fun x19 e20 => ?_)
      have z21 := any_r x17
      refine ur_inl rfl (rcv_of hc2) (Nat.le_of_ble_eq_true rfl) (Nat.le_of_ble_eq_true rfl) (sf_X12_findStory hO0 hX0 _ (fun w22 h24 hr23 hO24 hv24 => ?_))
      have hu24 := hv24
      subst hr23
      show uRun _ (uCall Mt _) _ 40 (_, [], _, _, _)
      refine ur_push rfl ?_
      refine ur_svIk [some (.inr (.inr (some 69))), some (.inl a1), some (.inl 6), some (.inl 0), none, none, none] rfl rfl ?_
      refine ur_push rfl ?_
      refine ur_svIk [some (.inr (.inr (some 69))), some (.inl a1), some (.inl 6), some (.inl 0), some (.inl 0), none, none] rfl rfl ?_
      refine ur_push rfl ?_
      refine ur_svIk [some (.inr (.inr (some 69))), some (.inl a1), some (.inl 6), some (.inl 0), some (.inl 0), some (.inl 1), none] rfl rfl ?_
      obtain ⟨fs32, hc33⟩ := hO24.mod
      obtain ⟨f34, p35, t36⟩ := mf_4 hO24 hc33
      have t37 := fI_of hc33 p35
      obtain ⟨f38, p39, t40⟩ := mf_38 hO24 hc33
      have t41 := fI_of hc33 p39
      have L29 : ∀ (m30 : Nat) (x25 : Int32) (x26 : Int32) (x27 : Int32) (u28 : Option aV) , ((1 ≤ x27.toInt ∧ x27.toInt ≤ 2147483647)) → ((2147483648 - x27.toInt).toNat) < m30 → uRun oX12_best (uCall Mt (d + 9)) Q 48 ([some (.inr (.inr (some 69))), some (.inl a1), some (.inl 6), some (.inl x25), some (.inl x26), some (.inl x27), u28], [], h24, kc, ks) := by
        intro m30
        induction m30 with
        | zero => intro x25 x26 x27 u28 iv42 mm43; omega
        | succ m30 ih31 =>
          intro x25 x26 x27 u28 iv42 mm43
          refine ur_ldI rfl rfl ?_
          refine ur_push rfl ?_
          refine ur_ldI rfl rfl ?_
          refine ur_binV rfl (fun x44 e45 => ?_)
          have z46 := any_r x27
          have z47 := any_r x44
          refine ur_if2 rfl (fun c48 => ?_) (fun c48 => ?_)
          · have t49 := le_to c48
            refine ur_ldI rfl rfl ?_
            refine ur_if1 rfl (fun c50 => ?_) (fun c50 => ?_)
            · have t51 := ne_to c50
              refine ur_ldI rfl rfl ?_
              have t52 := fI_keep (k := 4) hO0 hO24 hu24 rfl (by decide)
              have t53 := fI_keep (k := 38) hO0 hO24 hu24 rfl (by decide)
              exact ur_ret rfl rfl (hQ _ _ ⟨_, rfl⟩ hO24 hu24)
            · have t54 := ne_no c50
              refine ur_ldI rfl rfl ?_
              refine ur_go rfl ?_
              have t55 := fI_keep (k := 4) hO0 hO24 hu24 rfl (by decide)
              have t56 := fI_keep (k := 38) hO0 hO24 hu24 rfl (by decide)
              exact ur_ret rfl rfl (hQ _ _ ⟨_, rfl⟩ hO24 hu24)
          · have t57 := le_no c48
            refine ur_ldA rfl rfl ?_
            refine ur_ldI rfl rfl ?_
            have t58 := fI_keep (k := 4) hO0 hO24 hu24 rfl (by decide)
            have t59 := fI_keep (k := 38) hO0 hO24 hu24 rfl (by decide)
            refine ur_inl rfl (rcv_of hc33) (Nat.le_of_ble_eq_true rfl) (Nat.le_of_ble_eq_true rfl) (sf_X12_worthOf hO24 _ (fun w60 hr61 => ?_))
            obtain ⟨x62, rfl⟩ := hr61
            show uRun _ (uCall Mt _) _ 62 (_, [(.inl x62)], _, _, _)
            refine ur_svIk [some (.inr (.inr (some 69))), some (.inl a1), some (.inl 6), some (.inl x25), some (.inl x26), some (.inl x27), some (.inl x62)] rfl rfl ?_
            refine ur_ldI rfl rfl ?_
            refine ur_ldI rfl rfl ?_
            have z63 := any_r x62
            have z64 := any_r x26
            refine ur_if2 rfl (fun c65 => ?_) (fun c65 => ?_)
            · have t66 := lt_to c65
              refine ur_incV (fun z => [some (.inr (.inr (some 69))), some (.inl a1), some (.inl 6), some (.inl x25), some (.inl x26), some (.inl z), some (.inl x62)]) rfl rfl (fun _ => rfl) (fun x67 e68 => ?_)
              have t69 := ti_add e68 (by omega) (by omega)
              refine ur_go rfl ?_
              have z70 := any_r x67
              exact ih31 x25 x26 x67 _ (by omega) (by omega)
            · have t71 := lt_no c65
              refine ur_ldI rfl rfl ?_
              refine ur_ldI rfl rfl ?_
              refine ur_if2 rfl (fun c72 => ?_) (fun c72 => ?_)
              · have t73 := ne_to c72
                refine ur_ldI rfl rfl ?_
                refine ur_svIk [some (.inr (.inr (some 69))), some (.inl a1), some (.inl 6), some (.inl x27), some (.inl x26), some (.inl x27), some (.inl x62)] rfl rfl ?_
                refine ur_ldI rfl rfl ?_
                refine ur_svIk [some (.inr (.inr (some 69))), some (.inl a1), some (.inl 6), some (.inl x27), some (.inl x62), some (.inl x27), some (.inl x62)] rfl rfl ?_
                refine ur_incV (fun z => [some (.inr (.inr (some 69))), some (.inl a1), some (.inl 6), some (.inl x27), some (.inl x62), some (.inl z), some (.inl x62)]) rfl rfl (fun _ => rfl) (fun x74 e75 => ?_)
                have t76 := ti_add e75 (by omega) (by omega)
                refine ur_go rfl ?_
                have z77 := any_r x74
                exact ih31 x27 x62 x74 _ (by omega) (by omega)
              · have t78 := ne_no c72
                refine ur_ldI rfl rfl ?_
                refine ur_inl rfl rfl (Nat.le_of_ble_eq_true rfl) (Nat.le_of_ble_eq_true rfl) (sf_X12_bitsOf _ (fun w79 hr80 => ?_))
                obtain ⟨x81, rfl⟩ := hr80
                show uRun _ (uCall Mt _) _ 83 (_, [(.inl x81)], _, _, _)
                refine ur_ldI rfl rfl ?_
                refine ur_inl rfl rfl (Nat.le_of_ble_eq_true rfl) (Nat.le_of_ble_eq_true rfl) (sf_X12_bitsOf _ (fun w82 hr83 => ?_))
                obtain ⟨x84, rfl⟩ := hr83
                show uRun _ (uCall Mt _) _ 87 (_, [(.inl x84), (.inl x81)], _, _, _)
                have z85 := any_r x81
                have z86 := any_r x84
                refine ur_if2 rfl (fun c87 => ?_) (fun c87 => ?_)
                · have t88 := lt_to c87
                  refine ur_ldI rfl rfl ?_
                  refine ur_svIk [some (.inr (.inr (some 69))), some (.inl a1), some (.inl 6), some (.inl x27), some (.inl x26), some (.inl x27), some (.inl x62)] rfl rfl ?_
                  refine ur_ldI rfl rfl ?_
                  refine ur_svIk [some (.inr (.inr (some 69))), some (.inl a1), some (.inl 6), some (.inl x27), some (.inl x62), some (.inl x27), some (.inl x62)] rfl rfl ?_
                  refine ur_incV (fun z => [some (.inr (.inr (some 69))), some (.inl a1), some (.inl 6), some (.inl x27), some (.inl x62), some (.inl z), some (.inl x62)]) rfl rfl (fun _ => rfl) (fun x89 e90 => ?_)
                  have t91 := ti_add e90 (by omega) (by omega)
                  refine ur_go rfl ?_
                  have z92 := any_r x89
                  exact ih31 x27 x62 x89 _ (by omega) (by omega)
                · have t93 := lt_no c87
                  refine ur_go rfl ?_
                  refine ur_incV (fun z => [some (.inr (.inr (some 69))), some (.inl a1), some (.inl 6), some (.inl x25), some (.inl x26), some (.inl z), some (.inl x62)]) rfl rfl (fun _ => rfl) (fun x94 e95 => ?_)
                  have t96 := ti_add e95 (by omega) (by omega)
                  refine ur_go rfl ?_
                  have z97 := any_r x94
                  exact ih31 x25 x26 x94 _ (by omega) (by omega)
      exact L29 _ 0 0 1 (none) (by omega) (Nat.lt_succ_self _)
    · have t98 := le_no c15
      refine ur_ldA rfl rfl ?_
      refine ur_get rfl hc2 p4 ?_
      refine ur_go rfl ?_
      refine ur_svIk [some (.inr (.inr (some 69))), some (.inl a1), some (.inl f3), none, none, none, none] rfl rfl ?_
      refine ur_ldA rfl rfl ?_
      refine ur_push rfl ?_
      refine ur_ldI rfl rfl ?_
      refine ur_binV rfl (fun x99 e100 => ?_)
      refine ur_push rfl ?_
      refine ur_binV rfl (fun x101 e102 => ?_)
      have z103 := any_r x99
      refine ur_inl rfl (rcv_of hc2) (Nat.le_of_ble_eq_true rfl) (Nat.le_of_ble_eq_true rfl) (sf_X12_findStory hO0 hX0 _ (fun w104 h106 hr105 hO106 hv106 => ?_))
      have hu106 := hv106
      subst hr105
      show uRun _ (uCall Mt _) _ 40 (_, [], _, _, _)
      refine ur_push rfl ?_
      refine ur_svIk [some (.inr (.inr (some 69))), some (.inl a1), some (.inl f3), some (.inl 0), none, none, none] rfl rfl ?_
      refine ur_push rfl ?_
      refine ur_svIk [some (.inr (.inr (some 69))), some (.inl a1), some (.inl f3), some (.inl 0), some (.inl 0), none, none] rfl rfl ?_
      refine ur_push rfl ?_
      refine ur_svIk [some (.inr (.inr (some 69))), some (.inl a1), some (.inl f3), some (.inl 0), some (.inl 0), some (.inl 1), none] rfl rfl ?_
      obtain ⟨fs114, hc115⟩ := hO106.mod
      obtain ⟨f116, p117, t118⟩ := mf_4 hO106 hc115
      have t119 := fI_of hc115 p117
      obtain ⟨f120, p121, t122⟩ := mf_38 hO106 hc115
      have t123 := fI_of hc115 p121
      have L111 : ∀ (m112 : Nat) (x107 : Int32) (x108 : Int32) (x109 : Int32) (u110 : Option aV) , ((1 ≤ x109.toInt ∧ x109.toInt ≤ 2147483647)) → ((2147483648 - x109.toInt).toNat) < m112 → uRun oX12_best (uCall Mt (d + 9)) Q 48 ([some (.inr (.inr (some 69))), some (.inl a1), some (.inl f3), some (.inl x107), some (.inl x108), some (.inl x109), u110], [], h106, kc, ks) := by
        intro m112
        induction m112 with
        | zero => intro x107 x108 x109 u110 iv124 mm125; omega
        | succ m112 ih113 =>
          intro x107 x108 x109 u110 iv124 mm125
          refine ur_ldI rfl rfl ?_
          refine ur_push rfl ?_
          refine ur_ldI rfl rfl ?_
          refine ur_binV rfl (fun x126 e127 => ?_)
          have z128 := any_r x109
          have z129 := any_r x126
          refine ur_if2 rfl (fun c130 => ?_) (fun c130 => ?_)
          · have t131 := le_to c130
            refine ur_ldI rfl rfl ?_
            refine ur_if1 rfl (fun c132 => ?_) (fun c132 => ?_)
            · have t133 := ne_to c132
              refine ur_ldI rfl rfl ?_
              have t134 := fI_keep (k := 4) hO0 hO106 hu106 rfl (by decide)
              have t135 := fI_keep (k := 38) hO0 hO106 hu106 rfl (by decide)
              exact ur_ret rfl rfl (hQ _ _ ⟨_, rfl⟩ hO106 hu106)
            · have t136 := ne_no c132
              refine ur_ldI rfl rfl ?_
              refine ur_go rfl ?_
              have t137 := fI_keep (k := 4) hO0 hO106 hu106 rfl (by decide)
              have t138 := fI_keep (k := 38) hO0 hO106 hu106 rfl (by decide)
              exact ur_ret rfl rfl (hQ _ _ ⟨_, rfl⟩ hO106 hu106)
          · have t139 := le_no c130
            refine ur_ldA rfl rfl ?_
            refine ur_ldI rfl rfl ?_
            have t140 := fI_keep (k := 4) hO0 hO106 hu106 rfl (by decide)
            have t141 := fI_keep (k := 38) hO0 hO106 hu106 rfl (by decide)
            refine ur_inl rfl (rcv_of hc115) (Nat.le_of_ble_eq_true rfl) (Nat.le_of_ble_eq_true rfl) (sf_X12_worthOf hO106 _ (fun w142 hr143 => ?_))
            obtain ⟨x144, rfl⟩ := hr143
            show uRun _ (uCall Mt _) _ 62 (_, [(.inl x144)], _, _, _)
            refine ur_svIk [some (.inr (.inr (some 69))), some (.inl a1), some (.inl f3), some (.inl x107), some (.inl x108), some (.inl x109), some (.inl x144)] rfl rfl ?_
            refine ur_ldI rfl rfl ?_
            refine ur_ldI rfl rfl ?_
            have z145 := any_r x144
            have z146 := any_r x108
            refine ur_if2 rfl (fun c147 => ?_) (fun c147 => ?_)
            · have t148 := lt_to c147
              refine ur_incV (fun z => [some (.inr (.inr (some 69))), some (.inl a1), some (.inl f3), some (.inl x107), some (.inl x108), some (.inl z), some (.inl x144)]) rfl rfl (fun _ => rfl) (fun x149 e150 => ?_)
              have t151 := ti_add e150 (by omega) (by omega)
              refine ur_go rfl ?_
              have z152 := any_r x149
              exact ih113 x107 x108 x149 _ (by omega) (by omega)
            · have t153 := lt_no c147
              refine ur_ldI rfl rfl ?_
              refine ur_ldI rfl rfl ?_
              refine ur_if2 rfl (fun c154 => ?_) (fun c154 => ?_)
              · have t155 := ne_to c154
                refine ur_ldI rfl rfl ?_
                refine ur_svIk [some (.inr (.inr (some 69))), some (.inl a1), some (.inl f3), some (.inl x109), some (.inl x108), some (.inl x109), some (.inl x144)] rfl rfl ?_
                refine ur_ldI rfl rfl ?_
                refine ur_svIk [some (.inr (.inr (some 69))), some (.inl a1), some (.inl f3), some (.inl x109), some (.inl x144), some (.inl x109), some (.inl x144)] rfl rfl ?_
                refine ur_incV (fun z => [some (.inr (.inr (some 69))), some (.inl a1), some (.inl f3), some (.inl x109), some (.inl x144), some (.inl z), some (.inl x144)]) rfl rfl (fun _ => rfl) (fun x156 e157 => ?_)
                have t158 := ti_add e157 (by omega) (by omega)
                refine ur_go rfl ?_
                have z159 := any_r x156
                exact ih113 x109 x144 x156 _ (by omega) (by omega)
              · have t160 := ne_no c154
                refine ur_ldI rfl rfl ?_
                refine ur_inl rfl rfl (Nat.le_of_ble_eq_true rfl) (Nat.le_of_ble_eq_true rfl) (sf_X12_bitsOf _ (fun w161 hr162 => ?_))
                obtain ⟨x163, rfl⟩ := hr162
                show uRun _ (uCall Mt _) _ 83 (_, [(.inl x163)], _, _, _)
                refine ur_ldI rfl rfl ?_
                refine ur_inl rfl rfl (Nat.le_of_ble_eq_true rfl) (Nat.le_of_ble_eq_true rfl) (sf_X12_bitsOf _ (fun w164 hr165 => ?_))
                obtain ⟨x166, rfl⟩ := hr165
                show uRun _ (uCall Mt _) _ 87 (_, [(.inl x166), (.inl x163)], _, _, _)
                have z167 := any_r x163
                have z168 := any_r x166
                refine ur_if2 rfl (fun c169 => ?_) (fun c169 => ?_)
                · have t170 := lt_to c169
                  refine ur_ldI rfl rfl ?_
                  refine ur_svIk [some (.inr (.inr (some 69))), some (.inl a1), some (.inl f3), some (.inl x109), some (.inl x108), some (.inl x109), some (.inl x144)] rfl rfl ?_
                  refine ur_ldI rfl rfl ?_
                  refine ur_svIk [some (.inr (.inr (some 69))), some (.inl a1), some (.inl f3), some (.inl x109), some (.inl x144), some (.inl x109), some (.inl x144)] rfl rfl ?_
                  refine ur_incV (fun z => [some (.inr (.inr (some 69))), some (.inl a1), some (.inl f3), some (.inl x109), some (.inl x144), some (.inl z), some (.inl x144)]) rfl rfl (fun _ => rfl) (fun x171 e172 => ?_)
                  have t173 := ti_add e172 (by omega) (by omega)
                  refine ur_go rfl ?_
                  have z174 := any_r x171
                  exact ih113 x109 x144 x171 _ (by omega) (by omega)
                · have t175 := lt_no c169
                  refine ur_go rfl ?_
                  refine ur_incV (fun z => [some (.inr (.inr (some 69))), some (.inl a1), some (.inl f3), some (.inl x107), some (.inl x108), some (.inl z), some (.inl x144)]) rfl rfl (fun _ => rfl) (fun x176 e177 => ?_)
                  have t178 := ti_add e177 (by omega) (by omega)
                  refine ur_go rfl ?_
                  have z179 := any_r x176
                  exact ih113 x107 x108 x176 _ (by omega) (by omega)
      exact L111 _ 0 0 1 (none) (by omega) (Nat.lt_succ_self _)
  · have t180 := wi_noL c13 l_0 l_1
    refine ur_push rfl ?_
    exact ur_ret rfl rfl (hQ _ _ ⟨_, rfl⟩ hO0 un.rf)

set_option maxRecDepth 20000 in
set_option maxHeartbeats 4000000 in
theorem sf_X12_rightBy {d kc ks : Nat} {h0 : aH} {Q : Option aV → aH → Prop} (hO0 : OK h0) (hX0 : SX h0) (a1 : Int32) (a2 : Int32) (b2 : 0 ≤ a2.toInt ∧ a2.toInt ≤ 11) (a3 : Int32) (b3 : -400 ≤ a3.toInt ∧ a3.toInt ≤ 400) (pre0 : a2.toInt < fI h0 4) (hQ : ∀ r h', (∃ x, r = some (.inl x)) → OK h' → un [80, 81] h0 h' → Q r h') : uCall Mt (d + 9) 276 [(.inr (.inr (some 69))), (.inl a1), (.inl a2), (.inl a3)] h0 kc ks Q := by
  have l_0 : ((0) : Int32).toInt = 0 := by decide
  have l_1 : ((1) : Int32).toInt = 1 := by decide
  have l_3 : ((3) : Int32).toInt = 3 := by decide
  have l_60 : ((60) : Int32).toInt = 60 := by decide
  refine uc_ink [some (.inr (.inr (some 69))), some (.inl a1), some (.inl a2), some (.inl a3), none, none] mt_276 (Nat.le_of_ble_eq_true rfl) rfl ?_
  obtain ⟨fs1, hc2⟩ := hO0.mod
  obtain ⟨f3, p4, t5⟩ := mf_4 hO0 hc2
  have t6 := fI_of hc2 p4
  obtain ⟨f7, p8, t9⟩ := mf_38 hO0 hc2
  have t10 := fI_of hc2 p8
  refine ur_push rfl ?_
  refine ur_svIk [some (.inr (.inr (some 69))), some (.inl a1), some (.inl a2), some (.inl a3), some (.inl 0), none] rfl rfl ?_
  refine ur_push rfl ?_
  refine ur_svIk [some (.inr (.inr (some 69))), some (.inl a1), some (.inl a2), some (.inl a3), some (.inl 0), some (.inl 0)] rfl rfl ?_
  have L13 : ∀ (m14 : Nat) (x11 : Int32) (x12 : Int32) (h16 : aH) , OK h16 → un [80, 81] h0 h16 → ((0 ≤ x12.toInt ∧ x12.toInt ≤ 2147483647)) → ((2147483648 - x12.toInt).toNat) < m14 → uRun oX12_rightBy (uCall Mt (d + 8)) Q 6 ([some (.inr (.inr (some 69))), some (.inl a1), some (.inl a2), some (.inl a3), some (.inl x11), some (.inl x12)], [], h16, kc, ks) := by
    intro m14
    induction m14 with
    | zero => intro x11 x12 h16 hO16 hu16 iv17 mm18; omega
    | succ m14 ih15 =>
      intro x11 x12 h16 hO16 hu16 iv17 mm18
      refine ur_ldI rfl rfl ?_
      refine ur_ldA rfl rfl ?_
      obtain ⟨fs19, hc20⟩ := hO16.mod
      obtain ⟨f21, p22, t23⟩ := mf_38 hO16 hc20
      have t24 := fI_of hc20 p22
      have t25 := fI_keep (k := 4) hO0 hO16 hu16 rfl (by decide)
      have t26 := fI_keep (k := 38) hO0 hO16 hu16 rfl (by decide)
      refine ur_get rfl hc20 p22 ?_
      have z27 := any_r x12
      have z28 := any_r f21
      refine ur_if2 rfl (fun c29 => ?_) (fun c29 => ?_)
      · have t30 := le_to c29
        refine ur_ldI rfl rfl ?_
        obtain ⟨f31, p32, t33⟩ := mf_4 hO16 hc20
        have t34 := fI_of hc20 p32
        exact ur_ret rfl rfl (hQ _ _ ⟨_, rfl⟩ hO16 hu16)
      · have t35 := le_no c29
        refine ur_ldI rfl rfl ?_
        refine ur_ldA rfl rfl ?_
        refine ur_get rfl hc20 (mf_39 hO16 hc20) ?_
        refine ur_ldI rfl rfl ?_
        obtain ⟨xs37, hc36, hn38, he39⟩ := hO16.int (hO16.fix 96 (by decide) rfl)
        refine ur_aldV rfl hc36 hn38 (by omega) (fun x40 hx41 => ?_)
        have t42 : 0 ≤ x40.toInt ∧ x40.toInt ≤ 7 := he39 _ _ hx41
        refine ur_push rfl ?_
        refine ur_if2 rfl (fun c43 => ?_) (fun c43 => ?_)
        · have t44 := eq_to c43
          refine ur_push rfl ?_
          refine ur_binV rfl (fun x45 e46 => ?_)
          have z47 := any_r x11
          have t48 := ti_add e46 (by omega) (by omega)
          refine ur_svIk [some (.inr (.inr (some 69))), some (.inl a1), some (.inl a2), some (.inl a3), some (.inl x45), some (.inl x12)] rfl rfl ?_
          refine ur_incV (fun z => [some (.inr (.inr (some 69))), some (.inl a1), some (.inl a2), some (.inl a3), some (.inl x45), some (.inl z)]) rfl rfl (fun _ => rfl) (fun x49 e50 => ?_)
          have t51 := ti_add e50 (by omega) (by omega)
          refine ur_go rfl ?_
          obtain ⟨f52, p53, t54⟩ := mf_4 hO16 hc20
          have t55 := fI_of hc20 p53
          have z56 := any_r x49
          exact ih15 x45 x49 _ hO16 hu16 (by omega) (by omega)
        · have t57 := eq_no c43
          refine ur_ldA rfl rfl ?_
          refine ur_get rfl hc20 (mf_40 hO16 hc20) ?_
          refine ur_ldI rfl rfl ?_
          obtain ⟨xs59, hc58, hn60, he61⟩ := hO16.int (hO16.fix 97 (by decide) rfl)
          refine ur_aldV rfl hc58 hn60 (by omega) (fun x62 hx63 => ?_)
          have t64 : 0 ≤ x62.toInt ∧ x62.toInt ≤ 8 := he61 _ _ hx63
          refine ur_ldI rfl rfl ?_
          have z65 := any_r x62
          have z66 := any_r a1
          refine ur_if2 rfl (fun c67 => ?_) (fun c67 => ?_)
          · have t68 := ne_to c67
            refine ur_push rfl ?_
            refine ur_binV rfl (fun x69 e70 => ?_)
            have z71 := any_r x11
            have t72 := ti_add e70 (by omega) (by omega)
            refine ur_svIk [some (.inr (.inr (some 69))), some (.inl a1), some (.inl a2), some (.inl a3), some (.inl x69), some (.inl x12)] rfl rfl ?_
            refine ur_incV (fun z => [some (.inr (.inr (some 69))), some (.inl a1), some (.inl a2), some (.inl a3), some (.inl x69), some (.inl z)]) rfl rfl (fun _ => rfl) (fun x73 e74 => ?_)
            have t75 := ti_add e74 (by omega) (by omega)
            refine ur_go rfl ?_
            obtain ⟨f76, p77, t78⟩ := mf_4 hO16 hc20
            have t79 := fI_of hc20 p77
            have z80 := any_r x73
            exact ih15 x69 x73 _ hO16 hu16 (by omega) (by omega)
          · have t81 := ne_no c67
            refine ur_ldA rfl rfl ?_
            refine ur_ldI rfl rfl ?_
            refine ur_ldI rfl rfl ?_
            refine ur_ldI rfl rfl ?_
            obtain ⟨f82, p83, t84⟩ := mf_4 hO16 hc20
            have t85 := fI_of hc20 p83
            refine ur_inl rfl (rcv_of hc20) (Nat.le_of_ble_eq_true rfl) (Nat.le_of_ble_eq_true rfl) (sf_X12_whoseBy hO16 (hX0.un hO0 hO16 hu16 (by decide)) _ (by show 0 ≤ x12.toInt ∧ x12.toInt ≤ 149; omega) _ (by show 0 ≤ a2.toInt ∧ a2.toInt ≤ 11; omega) _ (by show -400 ≤ a3.toInt ∧ a3.toInt ≤ 400; omega) (by omega) (by omega) (fun w86 h88 hr87 hO88 hv88 => ?_))
            have hu88 := hv88
            obtain ⟨x89, rfl, t90⟩ := hr87
            show uRun _ (uCall Mt _) _ 47 (_, [(.inl x89), (.inl x11)], _, _, _)
            refine ur_push rfl ?_
            refine ur_if2 rfl (fun c91 => ?_) (fun c91 => ?_)
            · have t92 := lt_to c91
              refine ur_push rfl ?_
              refine ur_binV rfl (fun x93 e94 => ?_)
              have z95 := any_r x11
              have t96 := ti_add e94 (by omega) (by omega)
              refine ur_svIk [some (.inr (.inr (some 69))), some (.inl a1), some (.inl a2), some (.inl a3), some (.inl x93), some (.inl x12)] rfl rfl ?_
              refine ur_incV (fun z => [some (.inr (.inr (some 69))), some (.inl a1), some (.inl a2), some (.inl a3), some (.inl x93), some (.inl z)]) rfl rfl (fun _ => rfl) (fun x97 e98 => ?_)
              have t99 := ti_add e98 (by omega) (by omega)
              refine ur_go rfl ?_
              obtain ⟨fs100, hc101⟩ := hO88.mod
              obtain ⟨f102, p103, t104⟩ := mf_4 hO88 hc101
              have t105 := fI_of hc101 p103
              obtain ⟨f106, p107, t108⟩ := mf_38 hO88 hc101
              have t109 := fI_of hc101 p107
              have z110 := any_r x97
              exact ih15 x93 x97 _ hO88 (hu16.tr hu88) (by omega) (by omega)
            · have t111 := lt_no c91
              refine ur_push rfl ?_
              refine ur_go rfl ?_
              refine ur_binV rfl (fun x112 e113 => ?_)
              have z114 := any_r x11
              refine ur_svIk [some (.inr (.inr (some 69))), some (.inl a1), some (.inl a2), some (.inl a3), some (.inl x112), some (.inl x12)] rfl rfl ?_
              refine ur_incV (fun z => [some (.inr (.inr (some 69))), some (.inl a1), some (.inl a2), some (.inl a3), some (.inl x112), some (.inl z)]) rfl rfl (fun _ => rfl) (fun x115 e116 => ?_)
              have t117 := ti_add e116 (by omega) (by omega)
              refine ur_go rfl ?_
              obtain ⟨fs118, hc119⟩ := hO88.mod
              obtain ⟨f120, p121, t122⟩ := mf_4 hO88 hc119
              have t123 := fI_of hc119 p121
              obtain ⟨f124, p125, t126⟩ := mf_38 hO88 hc119
              have t127 := fI_of hc119 p125
              have z128 := any_r x115
              exact ih15 x112 x115 _ hO88 (hu16.tr hu88) (by omega) (by omega)
  exact L13 _ 0 0 _ hO0 un.rf (by omega) (Nat.lt_succ_self _)

set_option maxRecDepth 20000 in
set_option maxHeartbeats 4000000 in
theorem sf_X12_right {d kc ks : Nat} {h0 : aH} {Q : Option aV → aH → Prop} (hO0 : OK h0) (hX0 : SX h0) (a1 : Int32) (a2 : Int32) (a3 : Int32) (hQ : ∀ r h', (∃ x, r = some (.inl x)) → OK h' → un [80, 81] h0 h' → Q r h') : uCall Mt (d + 10) 277 [(.inr (.inr (some 69))), (.inl a1), (.inl a2), (.inl a3)] h0 kc ks Q := by
  have l_m2000000000 : ((-2000000000) : Int32).toInt = -2000000000 := by decide
  have l_m1 : ((-1) : Int32).toInt = -1 := by decide
  have l_0 : ((0) : Int32).toInt = 0 := by decide
  have l_1 : ((1) : Int32).toInt = 1 := by decide
  have l_2 : ((2) : Int32).toInt = 2 := by decide
  have l_8 : ((8) : Int32).toInt = 8 := by decide
  have l_10 : ((10) : Int32).toInt = 10 := by decide
  have l_400 : ((400) : Int32).toInt = 400 := by decide
  refine uc_ink [some (.inr (.inr (some 69))), some (.inl a1), some (.inl a2), some (.inl a3), none, none, none, none, none] mt_277 (Nat.le_of_ble_eq_true rfl) rfl ?_
  obtain ⟨fs1, hc2⟩ := hO0.mod
  obtain ⟨f3, p4, t5⟩ := mf_4 hO0 hc2
  have t6 := fI_of hc2 p4
  obtain ⟨f7, p8, t9⟩ := mf_38 hO0 hc2
  have t10 := fI_of hc2 p8
  refine ur_ldI rfl rfl ?_
  refine ur_callv rfl rfl (Nat.le_of_ble_eq_true rfl) (Nat.le_of_ble_eq_true rfl) rfl (sq_isPpl _ _) ?_
  refine ur_eqB rfl (fun c13 => ?_) (fun c13 => ?_)
  · have t14 := wi_noL c13 l_0 l_8
    refine ur_push rfl ?_
    exact ur_ret rfl rfl (hQ _ _ ⟨_, rfl⟩ hO0 un.rf)
  · have t15 := wi_toL c13 l_0 l_8
    refine ur_ldA rfl rfl ?_
    refine ur_ldI rfl rfl ?_
    refine ur_inl rfl (rcv_of hc2) (Nat.le_of_ble_eq_true rfl) (Nat.le_of_ble_eq_true rfl) (sg_isComet hO0 _ (fun w16 hr17 => ?_))
    obtain ⟨b18, rfl, t19⟩ := hr17
    show uRun _ (uCall Mt _) _ 12 (_, [(.inl (bi b18))], _, _, _)
    refine ur_eqB rfl (fun c20 => ?_) (fun c20 => ?_)
    · refine ur_push rfl ?_
      exact ur_ret rfl rfl (hQ _ _ ⟨_, rfl⟩ hO0 un.rf)
    · have t21 := t19 c20
      refine ur_ldI rfl rfl ?_
      refine ur_push rfl ?_
      refine ur_push rfl ?_
      refine ur_callv rfl rfl (Nat.le_of_ble_eq_true rfl) (Nat.le_of_ble_eq_true rfl) rfl (sp_in _ _ _ _ _) ?_
      refine ur_neB rfl (fun c24 => ?_) (fun c24 => ?_)
      · have t25 := wi_toL c24 l_0 l_1
        refine ur_push rfl ?_
        refine ur_svIk [some (.inr (.inr (some 69))), some (.inl a1), some (.inl a2), some (.inl a3), some (.inl 0), none, none, none, none] rfl rfl ?_
        refine ur_ldA rfl rfl ?_
        refine ur_ldI rfl rfl ?_
        refine ur_ldI rfl rfl ?_
        refine ur_push rfl ?_
        refine ur_inl rfl (rcv_of hc2) (Nat.le_of_ble_eq_true rfl) (Nat.le_of_ble_eq_true rfl) (sf_X12_rightBy hO0 hX0 _ _ (by show 0 ≤ a2.toInt ∧ a2.toInt ≤ 11; omega) _ (by show -400 ≤ (0 : Int32).toInt ∧ (0 : Int32).toInt ≤ 400; omega) (by omega) (fun w26 h28 hr27 hO28 hv28 => ?_))
        have hu28 := hv28
        obtain ⟨x29, rfl⟩ := hr27
        show uRun _ (uCall Mt _) _ 37 (_, [(.inl x29)], _, _, _)
        refine ur_svIk [some (.inr (.inr (some 69))), some (.inl a1), some (.inl a2), some (.inl a3), some (.inl 0), some (.inl x29), none, none, none] rfl rfl ?_
        refine ur_push rfl ?_
        refine ur_svIk [some (.inr (.inr (some 69))), some (.inl a1), some (.inl a2), some (.inl a3), some (.inl 0), some (.inl x29), some (.inl 10), none, none] rfl rfl ?_
        obtain ⟨fs38, hc39⟩ := hO28.mod
        obtain ⟨f40, p41, t42⟩ := mf_4 hO28 hc39
        have t43 := fI_of hc39 p41
        obtain ⟨f44, p45, t46⟩ := mf_38 hO28 hc39
        have t47 := fI_of hc39 p45
        have L35 : ∀ (m36 : Nat) (x30 : Int32) (x31 : Int32) (x32 : Int32) (u33 : Option aV) (u34 : Option aV) (h48 : aH) , OK h48 → un [80, 81] h28 h48 → ((10 ≤ x32.toInt ∧ x32.toInt ≤ 410)) → ((500 - x32.toInt).toNat) < m36 → uRun oX12_right (uCall Mt (d + 9)) Q 43 ([some (.inr (.inr (some 69))), some (.inl a1), some (.inl a2), some (.inl a3), some (.inl x30), some (.inl x31), some (.inl x32), u33, u34], [], h48, kc, ks) := by
          intro m36
          induction m36 with
          | zero => intro x30 x31 x32 u33 u34 h48 hO48 hu48 iv49 mm50; omega
          | succ m36 ih37 =>
            intro x30 x31 x32 u33 u34 h48 hO48 hu48 iv49 mm50
            refine ur_ldI rfl rfl ?_
            refine ur_push rfl ?_
            refine ur_if2 rfl (fun c51 => ?_) (fun c51 => ?_)
            · have t52 := lt_to c51
              refine ur_ldI rfl rfl ?_
              refine ur_if1 rfl (fun c53 => ?_) (fun c53 => ?_)
              · have t54 := ne_to c53
                refine ur_ldI rfl rfl ?_
                obtain ⟨fs55, hc56⟩ := hO48.mod
                obtain ⟨f57, p58, t59⟩ := mf_4 hO48 hc56
                have t60 := fI_of hc56 p58
                obtain ⟨f61, p62, t63⟩ := mf_38 hO48 hc56
                have t64 := fI_of hc56 p62
                have t65 := fI_keep (k := 4) hO0 hO48 (hu28.tr hu48) rfl (by decide)
                have t66 := fI_keep (k := 38) hO0 hO48 (hu28.tr hu48) rfl (by decide)
                exact ur_ret rfl rfl (hQ _ _ ⟨_, rfl⟩ hO48 (hu28.tr hu48))
              · have t67 := ne_no c53
                refine ur_ldI rfl rfl ?_
                refine ur_go rfl ?_
                obtain ⟨fs68, hc69⟩ := hO48.mod
                obtain ⟨f70, p71, t72⟩ := mf_4 hO48 hc69
                have t73 := fI_of hc69 p71
                obtain ⟨f74, p75, t76⟩ := mf_38 hO48 hc69
                have t77 := fI_of hc69 p75
                have t78 := fI_keep (k := 4) hO0 hO48 (hu28.tr hu48) rfl (by decide)
                have t79 := fI_keep (k := 38) hO0 hO48 (hu28.tr hu48) rfl (by decide)
                exact ur_ret rfl rfl (hQ _ _ ⟨_, rfl⟩ hO48 (hu28.tr hu48))
            · have t80 := lt_no c51
              refine ur_push rfl ?_
              refine ur_svIk [some (.inr (.inr (some 69))), some (.inl a1), some (.inl a2), some (.inl a3), some (.inl x30), some (.inl x31), some (.inl x32), some (.inl (-1)), u34] rfl rfl ?_
              obtain ⟨fs88, hc89⟩ := hO48.mod
              obtain ⟨f90, p91, t92⟩ := mf_4 hO48 hc89
              have t93 := fI_of hc89 p91
              obtain ⟨f94, p95, t96⟩ := mf_38 hO48 hc89
              have t97 := fI_of hc89 p95
              have L85 : ∀ (m86 : Nat) (x81 : Int32) (x82 : Int32) (x83 : Int32) (u84 : Option aV) (h98 : aH) , OK h98 → un [80, 81] h48 h98 → ((-1 ≤ x83.toInt ∧ x83.toInt ≤ 3)) → ((4 - x83.toInt).toNat) < m86 → uRun oX12_right (uCall Mt (d + 9)) Q 54 ([some (.inr (.inr (some 69))), some (.inl a1), some (.inl a2), some (.inl a3), some (.inl x81), some (.inl x82), some (.inl x32), some (.inl x83), u84], [], h98, kc, ks) := by
                intro m86
                induction m86 with
                | zero => intro x81 x82 x83 u84 h98 hO98 hu98 iv99 mm100; omega
                | succ m86 ih87 =>
                  intro x81 x82 x83 u84 h98 hO98 hu98 iv99 mm100
                  refine ur_ldI rfl rfl ?_
                  refine ur_push rfl ?_
                  refine ur_if2 rfl (fun c101 => ?_) (fun c101 => ?_)
                  · have t102 := lt_to c101
                    refine ur_incV (fun z => [some (.inr (.inr (some 69))), some (.inl a1), some (.inl a2), some (.inl a3), some (.inl x81), some (.inl x82), some (.inl z), some (.inl x83), u84]) rfl rfl (fun _ => rfl) (fun x103 e104 => ?_)
                    have z105 := any_r x32
                    have t106 := ti_add e104 (by omega) (by omega)
                    refine ur_go rfl ?_
                    obtain ⟨fs107, hc108⟩ := hO98.mod
                    obtain ⟨f109, p110, t111⟩ := mf_4 hO98 hc108
                    have t112 := fI_of hc108 p110
                    obtain ⟨f113, p114, t115⟩ := mf_38 hO98 hc108
                    have t116 := fI_of hc108 p114
                    have z117 := any_r x103
                    exact ih37 x81 x82 x103 _ _ _ hO98 (hu48.tr hu98) (by omega) (by omega)
                  · have t118 := lt_no c101
                    refine ur_ldA rfl rfl ?_
                    refine ur_ldI rfl rfl ?_
                    refine ur_ldI rfl rfl ?_
                    refine ur_ldI rfl rfl ?_
                    refine ur_ldI rfl rfl ?_
                    refine ur_binV rfl (fun x119 e120 => ?_)
                    have z121 := any_r x83
                    have z122 := any_r x32
                    have t123 := ti_mul1 e120 (by omega) (by omega)
                    obtain ⟨fs124, hc125⟩ := hO98.mod
                    obtain ⟨f126, p127, t128⟩ := mf_4 hO98 hc125
                    have t129 := fI_of hc125 p127
                    obtain ⟨f130, p131, t132⟩ := mf_38 hO98 hc125
                    have t133 := fI_of hc125 p131
                    have t134 := fI_keep (k := 4) hO0 hO98 (hu28.tr (hu48.tr hu98)) rfl (by decide)
                    have t135 := fI_keep (k := 38) hO0 hO98 (hu28.tr (hu48.tr hu98)) rfl (by decide)
                    refine ur_inl rfl (rcv_of hc125) (Nat.le_of_ble_eq_true rfl) (Nat.le_of_ble_eq_true rfl) (sf_X12_rightBy hO98 (hX0.un hO0 hO98 (hu28.tr (hu48.tr hu98)) (by decide)) _ _ (by show 0 ≤ a2.toInt ∧ a2.toInt ≤ 11; omega) _ (by show -400 ≤ x119.toInt ∧ x119.toInt ≤ 400; omega) (by omega) (fun w136 h138 hr137 hO138 hv138 => ?_))
                    have hu138 := hv138
                    obtain ⟨x139, rfl⟩ := hr137
                    show uRun _ (uCall Mt _) _ 71 (_, [(.inl x139)], _, _, _)
                    refine ur_svIk [some (.inr (.inr (some 69))), some (.inl a1), some (.inl a2), some (.inl a3), some (.inl x81), some (.inl x82), some (.inl x32), some (.inl x83), some (.inl x139)] rfl rfl ?_
                    refine ur_ldI rfl rfl ?_
                    refine ur_ldI rfl rfl ?_
                    have z140 := any_r x139
                    have z141 := any_r x82
                    refine ur_if2 rfl (fun c142 => ?_) (fun c142 => ?_)
                    · have t143 := lt_to c142
                      refine ur_ldI rfl rfl ?_
                      refine ur_ldI rfl rfl ?_
                      refine ur_binV rfl (fun x144 e145 => ?_)
                      have t146 := ti_mul1 e145 (by omega) (by omega)
                      refine ur_svIk [some (.inr (.inr (some 69))), some (.inl a1), some (.inl a2), some (.inl a3), some (.inl x144), some (.inl x82), some (.inl x32), some (.inl x83), some (.inl x139)] rfl rfl ?_
                      refine ur_ldI rfl rfl ?_
                      refine ur_svIk [some (.inr (.inr (some 69))), some (.inl a1), some (.inl a2), some (.inl a3), some (.inl x144), some (.inl x139), some (.inl x32), some (.inl x83), some (.inl x139)] rfl rfl ?_
                      refine ur_incV (fun z => [some (.inr (.inr (some 69))), some (.inl a1), some (.inl a2), some (.inl a3), some (.inl x144), some (.inl x139), some (.inl x32), some (.inl z), some (.inl x139)]) rfl rfl (fun _ => rfl) (fun x147 e148 => ?_)
                      have t149 := ti_add e148 (by omega) (by omega)
                      refine ur_go rfl ?_
                      obtain ⟨fs150, hc151⟩ := hO138.mod
                      obtain ⟨f152, p153, t154⟩ := mf_4 hO138 hc151
                      have t155 := fI_of hc151 p153
                      obtain ⟨f156, p157, t158⟩ := mf_38 hO138 hc151
                      have t159 := fI_of hc151 p157
                      have z160 := any_r x147
                      exact ih87 x144 x139 x147 _ _ hO138 (hu98.tr hu138) (by omega) (by omega)
                    · have t161 := lt_no c142
                      refine ur_go rfl ?_
                      refine ur_incV (fun z => [some (.inr (.inr (some 69))), some (.inl a1), some (.inl a2), some (.inl a3), some (.inl x81), some (.inl x82), some (.inl x32), some (.inl z), some (.inl x139)]) rfl rfl (fun _ => rfl) (fun x162 e163 => ?_)
                      have t164 := ti_add e163 (by omega) (by omega)
                      refine ur_go rfl ?_
                      obtain ⟨fs165, hc166⟩ := hO138.mod
                      obtain ⟨f167, p168, t169⟩ := mf_4 hO138 hc166
                      have t170 := fI_of hc166 p168
                      obtain ⟨f171, p172, t173⟩ := mf_38 hO138 hc166
                      have t174 := fI_of hc166 p172
                      have z175 := any_r x162
                      exact ih87 x81 x82 x162 _ _ hO138 (hu98.tr hu138) (by omega) (by omega)
              exact L85 _ x30 x31 (-1) (u34) _ hO48 un.rf (by omega) (Nat.lt_succ_self _)
        exact L35 _ 0 x29 10 (none) (none) _ hO28 un.rf (by omega) (Nat.lt_succ_self _)
      · have t176 := wi_noL c24 l_0 l_1
        refine ur_push rfl ?_
        exact ur_ret rfl rfl (hQ _ _ ⟨_, rfl⟩ hO0 un.rf)

set_option maxRecDepth 20000 in
set_option maxHeartbeats 4000000 in
theorem sf_X12_lookOut {d kc ks : Nat} {h0 : aH} {Q : Option aV → aH → Prop} (hO0 : OK h0) (hX0 : SX h0) (a1 : Int32) (b1 : 0 ≤ a1.toInt ∧ a1.toInt ≤ 9) (a2 : Int32) (b2 : 0 ≤ a2.toInt ∧ a2.toInt ≤ 11) (a3 : Int32) (b3 : 0 ≤ a3.toInt ∧ a3.toInt ≤ 11) (pre0 : a2.toInt < fI h0 4) (pre1 : a3.toInt < fI h0 4) (hQ : ∀ r h', (r = none) → OK h' → un [80, 81] h0 h' → Q r h') : uCall Mt (d + 7) 281 [(.inr (.inr (some 69))), (.inl a1), (.inl a2), (.inl a3)] h0 kc ks Q := by
  have l_m60 : ((-60) : Int32).toInt = -60 := by decide
  have l_0 : ((0) : Int32).toInt = 0 := by decide
  have l_1 : ((1) : Int32).toInt = 1 := by decide
  have l_60 : ((60) : Int32).toInt = 60 := by decide
  have l_120 : ((120) : Int32).toInt = 120 := by decide
  refine uc_ink [some (.inr (.inr (some 69))), some (.inl a1), some (.inl a2), some (.inl a3), none, none, none, none, none] mt_281 (Nat.le_of_ble_eq_true rfl) rfl ?_
  obtain ⟨fs1, hc2⟩ := hO0.mod
  obtain ⟨f3, p4, t5⟩ := mf_4 hO0 hc2
  have t6 := fI_of hc2 p4
  obtain ⟨f7, p8, t9⟩ := mf_38 hO0 hc2
  have t10 := fI_of hc2 p8
  refine ur_push rfl ?_
  refine ur_svIk [some (.inr (.inr (some 69))), some (.inl a1), some (.inl a2), some (.inl a3), some (.inl (-60)), none, none, none, none] rfl rfl ?_
  have L16 : ∀ (m17 : Nat) (x11 : Int32) (u12 : Option aV) (u13 : Option aV) (u14 : Option aV) (u15 : Option aV) (h19 : aH) , OK h19 → un [80, 81] h0 h19 → ((-60 ≤ x11.toInt ∧ x11.toInt ≤ 2147483647)) → ((2147483648 - x11.toInt).toNat) < m17 → uRun oX12_lookOut (uCall Mt (d + 6)) Q 4 ([some (.inr (.inr (some 69))), some (.inl a1), some (.inl a2), some (.inl a3), some (.inl x11), u12, u13, u14, u15], [], h19, kc, ks) := by
    intro m17
    induction m17 with
    | zero => intro x11 u12 u13 u14 u15 h19 hO19 hu19 iv20 mm21; omega
    | succ m17 ih18 =>
      intro x11 u12 u13 u14 u15 h19 hO19 hu19 iv20 mm21
      refine ur_ldI rfl rfl ?_
      refine ur_push rfl ?_
      refine ur_if2 rfl (fun c22 => ?_) (fun c22 => ?_)
      · have t23 := lt_to c22
        obtain ⟨fs24, hc25⟩ := hO19.mod
        obtain ⟨f26, p27, t28⟩ := mf_4 hO19 hc25
        have t29 := fI_of hc25 p27
        obtain ⟨f30, p31, t32⟩ := mf_38 hO19 hc25
        have t33 := fI_of hc25 p31
        have t34 := fI_keep (k := 4) hO0 hO19 hu19 rfl (by decide)
        have t35 := fI_keep (k := 38) hO0 hO19 hu19 rfl (by decide)
        exact ur_ret0 rfl (hQ _ _ rfl hO19 hu19)
      · have t36 := lt_no c22
        refine ur_ldA rfl rfl ?_
        refine ur_ldI rfl rfl ?_
        refine ur_ldI rfl rfl ?_
        obtain ⟨fs37, hc38⟩ := hO19.mod
        have t39 := fI_keep (k := 4) hO0 hO19 hu19 rfl (by decide)
        have t40 := fI_keep (k := 38) hO0 hO19 hu19 rfl (by decide)
        refine ur_inl rfl (rcv_of hc38) (Nat.le_of_ble_eq_true rfl) (Nat.le_of_ble_eq_true rfl) (sf_X12_passOf hO19 (hX0.un hO0 hO19 hu19 (by decide)) _ (by show 0 ≤ a2.toInt ∧ a2.toInt ≤ 11; omega) _ (by show -60 ≤ x11.toInt ∧ x11.toInt ≤ 60; omega) (fun w41 h43 hr42 hO43 hv43 => ?_))
        have hu43 := hv43
        obtain ⟨x44, rfl, t45⟩ := hr42
        show uRun _ (uCall Mt _) _ 18 (_, [(.inl x44)], _, _, _)
        refine ur_svIk [some (.inr (.inr (some 69))), some (.inl a1), some (.inl a2), some (.inl a3), some (.inl x11), some (.inl x44), u13, u14, u15] rfl rfl ?_
        refine ur_ldI rfl rfl ?_
        refine ur_if1 rfl (fun c46 => ?_) (fun c46 => ?_)
        · have t47 := le_to c46
          refine ur_ldA rfl rfl ?_
          obtain ⟨fs48, hc49⟩ := hO43.mod
          refine ur_get rfl hc49 (mf_36 hO43 hc49) ?_
          refine ur_ldI rfl rfl ?_
          obtain ⟨xs51, hc50, hn52, he53⟩ := hO43.int (hO43.fix 94 (by decide) rfl)
          refine ur_aldV rfl hc50 hn52 (by omega) (fun x54 hx55 => ?_)
          refine ur_ldI rfl rfl ?_
          refine ur_push rfl ?_
          refine ur_binV rfl (fun x56 e57 => ?_)
          have z58 := any_r x44
          have t59 := ti_sub e57 (by omega) (by omega)
          have z60 := any_r x54
          have z61 := any_r x56
          refine ur_if2 rfl (fun c62 => ?_) (fun c62 => ?_)
          · have t63 := le_to c62
            refine ur_ldA rfl rfl ?_
            refine ur_get rfl hc49 (mf_36 hO43 hc49) ?_
            refine ur_ldI rfl rfl ?_
            refine ur_aldV rfl hc50 hn52 (by omega) (fun x64 hx65 => ?_)
            obtain rfl : x54 = x64 := Option.some.inj (hx55.symm.trans hx65)
            refine ur_svIk [some (.inr (.inr (some 69))), some (.inl a1), some (.inl a2), some (.inl a3), some (.inl x11), some (.inl x44), some (.inl x54), u14, u15] rfl rfl ?_
            refine ur_ldA rfl rfl ?_
            refine ur_get rfl hc49 (mf_37 hO43 hc49) ?_
            refine ur_ldI rfl rfl ?_
            obtain ⟨xs67, hc66, hn68, he69⟩ := hO43.int (hO43.fix 95 (by decide) rfl)
            refine ur_aldV rfl hc66 hn68 (by omega) (fun x70 hx71 => ?_)
            have t72 : 0 ≤ x70.toInt ∧ x70.toInt ≤ 999999 := he69 _ _ hx71
            refine ur_ldI rfl rfl ?_
            refine ur_push rfl ?_
            refine ur_binV rfl (fun x73 e74 => ?_)
            have t75 := ti_add e74 (by omega) (by omega)
            have z76 := any_r x70
            have z77 := any_r x73
            refine ur_if2 rfl (fun c78 => ?_) (fun c78 => ?_)
            · have t79 := le_to c78
              refine ur_ldA rfl rfl ?_
              refine ur_get rfl hc49 (mf_37 hO43 hc49) ?_
              refine ur_ldI rfl rfl ?_
              refine ur_aldV rfl hc66 hn68 (by omega) (fun x80 hx81 => ?_)
              obtain rfl : x70 = x80 := Option.some.inj (hx71.symm.trans hx81)
              refine ur_svIk [some (.inr (.inr (some 69))), some (.inl a1), some (.inl a2), some (.inl a3), some (.inl x11), some (.inl x44), some (.inl x54), some (.inl x70), u15] rfl rfl ?_
              refine ur_ldI rfl rfl ?_
              refine ur_svIk [some (.inr (.inr (some 69))), some (.inl a1), some (.inl a2), some (.inl a3), some (.inl x11), some (.inl x44), some (.inl x54), some (.inl x70), some (.inl x54)] rfl rfl ?_
              obtain ⟨f86, p87, t88⟩ := mf_4 hO43 hc49
              have t89 := fI_of hc49 p87
              obtain ⟨f90, p91, t92⟩ := mf_38 hO43 hc49
              have t93 := fI_of hc49 p91
              have L83 : ∀ (m84 : Nat) (x82 : Int32) (h94 : aH) , OK h94 → un [80, 81] h43 h94 → ((-120 ≤ x82.toInt ∧ x82.toInt ≤ 2147483647)) → ((2147483648 - x82.toInt).toNat) < m84 → uRun oX12_lookOut (uCall Mt (d + 6)) Q 92 ([some (.inr (.inr (some 69))), some (.inl a1), some (.inl a2), some (.inl a3), some (.inl x11), some (.inl x44), some (.inl x54), some (.inl x70), some (.inl x82)], [], h94, kc, ks) := by
                intro m84
                induction m84 with
                | zero => intro x82 h94 hO94 hu94 iv95 mm96; omega
                | succ m84 ih85 =>
                  intro x82 h94 hO94 hu94 iv95 mm96
                  refine ur_ldI rfl rfl ?_
                  refine ur_ldI rfl rfl ?_
                  have z97 := any_r x82
                  refine ur_if2 rfl (fun c98 => ?_) (fun c98 => ?_)
                  · have t99 := lt_to c98
                    refine ur_incV (fun z => [some (.inr (.inr (some 69))), some (.inl a1), some (.inl a2), some (.inl a3), some (.inl z), some (.inl x44), some (.inl x54), some (.inl x70), some (.inl x82)]) rfl rfl (fun _ => rfl) (fun x100 e101 => ?_)
                    have z102 := any_r x11
                    have t103 := ti_add e101 (by omega) (by omega)
                    refine ur_go rfl ?_
                    obtain ⟨fs104, hc105⟩ := hO94.mod
                    obtain ⟨f106, p107, t108⟩ := mf_4 hO94 hc105
                    have t109 := fI_of hc105 p107
                    obtain ⟨f110, p111, t112⟩ := mf_38 hO94 hc105
                    have t113 := fI_of hc105 p111
                    have z114 := any_r x100
                    exact ih18 x100 _ _ _ _ _ hO94 (hu19.tr (hu43.tr hu94)) (by omega) (by omega)
                  · have t115 := lt_no c98
                    refine ur_ldA rfl rfl ?_
                    obtain ⟨fs116, hc117⟩ := hO94.mod
                    obtain ⟨f118, p119⟩ := mf_61 hO94 hc117
                    refine ur_get rfl hc117 p119 ?_
                    refine ur_if1 rfl (fun c120 => ?_) (fun c120 => ?_)
                    · have t121 := lt_to c120
                      refine ur_ldA rfl rfl ?_
                      refine ur_ldI rfl rfl ?_
                      refine ur_ldI rfl rfl ?_
                      refine ur_ldA rfl rfl ?_
                      refine ur_get rfl hc117 (mf_35 hO94 hc117) ?_
                      refine ur_ldI rfl rfl ?_
                      obtain ⟨xs123, hc122, hn124, he125⟩ := hO94.int (hO94.fix 93 (by decide) rfl)
                      refine ur_aldV rfl hc122 hn124 (by omega) (fun x126 hx127 => ?_)
                      refine ur_ldI rfl rfl ?_
                      obtain ⟨f128, p129, t130⟩ := mf_4 hO94 hc117
                      have t131 := fI_of hc117 p129
                      have t132 := fI_keep (k := 4) hO0 hO94 (hu19.tr (hu43.tr hu94)) rfl (by decide)
                      have t133 := fI_keep (k := 38) hO0 hO94 (hu19.tr (hu43.tr hu94)) rfl (by decide)
                      refine ur_inl rfl (rcv_of hc117) (Nat.le_of_ble_eq_true rfl) (Nat.le_of_ble_eq_true rfl) (sf_X12_canSee hO94 (hX0.un hO0 hO94 (hu19.tr (hu43.tr hu94)) (by decide)) _ (by show 0 ≤ a2.toInt ∧ a2.toInt ≤ 11; omega) _ _ _ (by omega) (fun w134 h136 hr135 hO136 hv136 => ?_))
                      have hu136 : un [80, 81] h94 h136 := hv136.mono (by decide)
                      obtain ⟨b137, rfl⟩ := hr135
                      show uRun _ (uCall Mt _) _ 155 (_, [(.inl (bi b137))], _, _, _)
                      refine ur_eqB rfl (fun c138 => ?_) (fun c138 => ?_)
                      · refine ur_incV (fun z => [some (.inr (.inr (some 69))), some (.inl a1), some (.inl a2), some (.inl a3), some (.inl x11), some (.inl x44), some (.inl x54), some (.inl x70), some (.inl z)]) rfl rfl (fun _ => rfl) (fun x139 e140 => ?_)
                        have t141 := ti_add e140 (by omega) (by omega)
                        refine ur_go rfl ?_
                        obtain ⟨fs142, hc143⟩ := hO136.mod
                        obtain ⟨f144, p145, t146⟩ := mf_4 hO136 hc143
                        have t147 := fI_of hc143 p145
                        obtain ⟨f148, p149, t150⟩ := mf_38 hO136 hc143
                        have t151 := fI_of hc143 p149
                        have z152 := any_r x139
                        exact ih85 x139 _ hO136 (hu94.tr hu136) (by omega) (by omega)
                      · refine ur_ldA rfl rfl ?_
                        refine ur_ldI rfl rfl ?_
                        refine ur_ldA rfl rfl ?_
                        obtain ⟨fs153, hc154⟩ := hO136.mod
                        refine ur_get rfl hc154 (mf_35 hO136 hc154) ?_
                        refine ur_ldI rfl rfl ?_
                        refine ur_aldV rfl (hv136.ka (n := 10) hc122 hn124 rfl (by decide) (wid_f (by decide)) (by decide)) hn124 (by omega) (fun x155 hx156 => ?_)
                        obtain rfl : x126 = x155 := Option.some.inj (hx127.symm.trans hx156)
                        refine ur_ldI rfl rfl ?_
                        obtain ⟨f157, p158, t159⟩ := mf_4 hO136 hc154
                        have t160 := fI_of hc154 p158
                        have t161 := fI_keep (k := 4) hO0 hO136 (hu19.tr (hu43.tr (hu94.tr hu136))) rfl (by decide)
                        have t162 := fI_keep (k := 38) hO0 hO136 (hu19.tr (hu43.tr (hu94.tr hu136))) rfl (by decide)
                        refine ur_inl rfl (rcv_of hc154) (Nat.le_of_ble_eq_true rfl) (Nat.le_of_ble_eq_true rfl) (sf_X12_seenBy hO136 (hX0.un hO0 hO136 (hu19.tr (hu43.tr (hu94.tr hu136))) (by decide)) _ (by show 0 ≤ a3.toInt ∧ a3.toInt ≤ 11; omega) _ _ (by omega) (fun w163 h165 hr164 hO165 hv165 => ?_))
                        have hu165 := hv165
                        obtain ⟨x166, rfl, t167⟩ := hr164
                        show uRun _ (uCall Mt _) _ 171 (_, [(.inl x166)], _, _, _)
                        refine ur_push rfl ?_
                        refine ur_if2 rfl (fun c168 => ?_) (fun c168 => ?_)
                        · have t169 := lt_to c168
                          refine ur_ldA rfl rfl ?_
                          refine ur_ldI rfl rfl ?_
                          obtain ⟨fs170, hc171⟩ := hO165.mod
                          obtain ⟨f172, p173⟩ := mf_61 hO165 hc171
                          refine ur_putM (W := [80, 81]) rfl hO165 hc171 (by decide) rfl (ms_61 (hO165.msh hc171)) (Or.inl rfl) (fun h175 hO175 hu175 d174 hc176 => ?_)
                          refine ur_ldA rfl rfl ?_
                          refine ur_ldA rfl rfl ?_
                          refine ur_get rfl hc176 (mf_35 hO175 hc176) ?_
                          refine ur_ldI rfl rfl ?_
                          refine ur_aldV rfl ((d174 _ (by decide)).trans (hv165.ka (n := 10) (hv136.ka (n := 10) hc122 hn124 rfl (by decide) (wid_f (by decide)) (by decide)) hn124 rfl (by decide) (wid_f (by decide)) (by decide))) hn124 (by omega) (fun x177 hx178 => ?_)
                          obtain rfl : x126 = x177 := Option.some.inj (hx127.symm.trans hx178)
                          obtain ⟨f179, p180⟩ := mf_62 hO175 hc176
                          refine ur_putM (W := [80, 81]) rfl hO175 hc176 (by decide) rfl (ms_62 (hO175.msh hc176)) (Or.inl rfl) (fun h182 hO182 hu182 d181 hc183 => ?_)
                          refine ur_go rfl ?_
                          refine ur_incV (fun z => [some (.inr (.inr (some 69))), some (.inl a1), some (.inl a2), some (.inl a3), some (.inl z), some (.inl x44), some (.inl x54), some (.inl x70), some (.inl x82)]) rfl rfl (fun _ => rfl) (fun x184 e185 => ?_)
                          have z186 := any_r x11
                          have t187 := ti_add e185 (by omega) (by omega)
                          refine ur_go rfl ?_
                          obtain ⟨f188, p189, t190⟩ := mf_4 hO182 hc183
                          have t191 := fI_of hc183 p189
                          obtain ⟨f192, p193, t194⟩ := mf_38 hO182 hc183
                          have t195 := fI_of hc183 p193
                          have z196 := any_r x184
                          exact ih18 x184 _ _ _ _ _ hO182 (hu19.tr (hu43.tr (hu94.tr (hu136.tr (hu165.tr (hu175.tr hu182)))))) (by omega) (by omega)
                        · have t197 := lt_no c168
                          refine ur_go rfl ?_
                          refine ur_incV (fun z => [some (.inr (.inr (some 69))), some (.inl a1), some (.inl a2), some (.inl a3), some (.inl x11), some (.inl x44), some (.inl x54), some (.inl x70), some (.inl z)]) rfl rfl (fun _ => rfl) (fun x198 e199 => ?_)
                          have t200 := ti_add e199 (by omega) (by omega)
                          refine ur_go rfl ?_
                          obtain ⟨fs201, hc202⟩ := hO165.mod
                          obtain ⟨f203, p204, t205⟩ := mf_4 hO165 hc202
                          have t206 := fI_of hc202 p204
                          obtain ⟨f207, p208, t209⟩ := mf_38 hO165 hc202
                          have t210 := fI_of hc202 p208
                          have z211 := any_r x198
                          exact ih85 x198 _ hO165 (hu94.tr (hu136.tr hu165)) (by omega) (by omega)
                    · have t212 := lt_no c120
                      refine ur_ldI rfl rfl ?_
                      refine ur_ldA rfl rfl ?_
                      refine ur_get rfl hc117 p119 ?_
                      have z213 := any_r f118
                      refine ur_if2 rfl (fun c214 => ?_) (fun c214 => ?_)
                      · have t215 := lt_to c214
                        refine ur_incV (fun z => [some (.inr (.inr (some 69))), some (.inl a1), some (.inl a2), some (.inl a3), some (.inl z), some (.inl x44), some (.inl x54), some (.inl x70), some (.inl x82)]) rfl rfl (fun _ => rfl) (fun x216 e217 => ?_)
                        have z218 := any_r x11
                        have t219 := ti_add e217 (by omega) (by omega)
                        refine ur_go rfl ?_
                        obtain ⟨f220, p221, t222⟩ := mf_4 hO94 hc117
                        have t223 := fI_of hc117 p221
                        obtain ⟨f224, p225, t226⟩ := mf_38 hO94 hc117
                        have t227 := fI_of hc117 p225
                        have z228 := any_r x216
                        exact ih18 x216 _ _ _ _ _ hO94 (hu19.tr (hu43.tr hu94)) (by omega) (by omega)
                      · have t229 := lt_no c214
                        refine ur_ldI rfl rfl ?_
                        refine ur_ldA rfl rfl ?_
                        refine ur_get rfl hc117 p119 ?_
                        refine ur_if2 rfl (fun c230 => ?_) (fun c230 => ?_)
                        · have t231 := ne_to c230
                          refine ur_ldA rfl rfl ?_
                          refine ur_ldI rfl rfl ?_
                          refine ur_ldI rfl rfl ?_
                          refine ur_ldA rfl rfl ?_
                          refine ur_get rfl hc117 (mf_35 hO94 hc117) ?_
                          refine ur_ldI rfl rfl ?_
                          obtain ⟨xs233, hc232, hn234, he235⟩ := hO94.int (hO94.fix 93 (by decide) rfl)
                          refine ur_aldV rfl hc232 hn234 (by omega) (fun x236 hx237 => ?_)
                          refine ur_ldI rfl rfl ?_
                          obtain ⟨f238, p239, t240⟩ := mf_4 hO94 hc117
                          have t241 := fI_of hc117 p239
                          have t242 := fI_keep (k := 4) hO0 hO94 (hu19.tr (hu43.tr hu94)) rfl (by decide)
                          have t243 := fI_keep (k := 38) hO0 hO94 (hu19.tr (hu43.tr hu94)) rfl (by decide)
                          refine ur_inl rfl (rcv_of hc117) (Nat.le_of_ble_eq_true rfl) (Nat.le_of_ble_eq_true rfl) (sf_X12_canSee hO94 (hX0.un hO0 hO94 (hu19.tr (hu43.tr hu94)) (by decide)) _ (by show 0 ≤ a2.toInt ∧ a2.toInt ≤ 11; omega) _ _ _ (by omega) (fun w244 h246 hr245 hO246 hv246 => ?_))
                          have hu246 : un [80, 81] h94 h246 := hv246.mono (by decide)
                          obtain ⟨b247, rfl⟩ := hr245
                          show uRun _ (uCall Mt _) _ 155 (_, [(.inl (bi b247))], _, _, _)
                          refine ur_eqB rfl (fun c248 => ?_) (fun c248 => ?_)
                          · refine ur_incV (fun z => [some (.inr (.inr (some 69))), some (.inl a1), some (.inl a2), some (.inl a3), some (.inl x11), some (.inl x44), some (.inl x54), some (.inl x70), some (.inl z)]) rfl rfl (fun _ => rfl) (fun x249 e250 => ?_)
                            have t251 := ti_add e250 (by omega) (by omega)
                            refine ur_go rfl ?_
                            obtain ⟨fs252, hc253⟩ := hO246.mod
                            obtain ⟨f254, p255, t256⟩ := mf_4 hO246 hc253
                            have t257 := fI_of hc253 p255
                            obtain ⟨f258, p259, t260⟩ := mf_38 hO246 hc253
                            have t261 := fI_of hc253 p259
                            have z262 := any_r x249
                            exact ih85 x249 _ hO246 (hu94.tr hu246) (by omega) (by omega)
                          · refine ur_ldA rfl rfl ?_
                            refine ur_ldI rfl rfl ?_
                            refine ur_ldA rfl rfl ?_
                            obtain ⟨fs263, hc264⟩ := hO246.mod
                            refine ur_get rfl hc264 (mf_35 hO246 hc264) ?_
                            refine ur_ldI rfl rfl ?_
                            refine ur_aldV rfl (hv246.ka (n := 10) hc232 hn234 rfl (by decide) (wid_f (by decide)) (by decide)) hn234 (by omega) (fun x265 hx266 => ?_)
                            obtain rfl : x236 = x265 := Option.some.inj (hx237.symm.trans hx266)
                            refine ur_ldI rfl rfl ?_
                            obtain ⟨f267, p268, t269⟩ := mf_4 hO246 hc264
                            have t270 := fI_of hc264 p268
                            have t271 := fI_keep (k := 4) hO0 hO246 (hu19.tr (hu43.tr (hu94.tr hu246))) rfl (by decide)
                            have t272 := fI_keep (k := 38) hO0 hO246 (hu19.tr (hu43.tr (hu94.tr hu246))) rfl (by decide)
                            refine ur_inl rfl (rcv_of hc264) (Nat.le_of_ble_eq_true rfl) (Nat.le_of_ble_eq_true rfl) (sf_X12_seenBy hO246 (hX0.un hO0 hO246 (hu19.tr (hu43.tr (hu94.tr hu246))) (by decide)) _ (by show 0 ≤ a3.toInt ∧ a3.toInt ≤ 11; omega) _ _ (by omega) (fun w273 h275 hr274 hO275 hv275 => ?_))
                            have hu275 := hv275
                            obtain ⟨x276, rfl, t277⟩ := hr274
                            show uRun _ (uCall Mt _) _ 171 (_, [(.inl x276)], _, _, _)
                            refine ur_push rfl ?_
                            refine ur_if2 rfl (fun c278 => ?_) (fun c278 => ?_)
                            · have t279 := lt_to c278
                              refine ur_ldA rfl rfl ?_
                              refine ur_ldI rfl rfl ?_
                              obtain ⟨fs280, hc281⟩ := hO275.mod
                              obtain ⟨f282, p283⟩ := mf_61 hO275 hc281
                              refine ur_putM (W := [80, 81]) rfl hO275 hc281 (by decide) rfl (ms_61 (hO275.msh hc281)) (Or.inl rfl) (fun h285 hO285 hu285 d284 hc286 => ?_)
                              refine ur_ldA rfl rfl ?_
                              refine ur_ldA rfl rfl ?_
                              refine ur_get rfl hc286 (mf_35 hO285 hc286) ?_
                              refine ur_ldI rfl rfl ?_
                              refine ur_aldV rfl ((d284 _ (by decide)).trans (hv275.ka (n := 10) (hv246.ka (n := 10) hc232 hn234 rfl (by decide) (wid_f (by decide)) (by decide)) hn234 rfl (by decide) (wid_f (by decide)) (by decide))) hn234 (by omega) (fun x287 hx288 => ?_)
                              obtain rfl : x236 = x287 := Option.some.inj (hx237.symm.trans hx288)
                              obtain ⟨f289, p290⟩ := mf_62 hO285 hc286
                              refine ur_putM (W := [80, 81]) rfl hO285 hc286 (by decide) rfl (ms_62 (hO285.msh hc286)) (Or.inl rfl) (fun h292 hO292 hu292 d291 hc293 => ?_)
                              refine ur_go rfl ?_
                              refine ur_incV (fun z => [some (.inr (.inr (some 69))), some (.inl a1), some (.inl a2), some (.inl a3), some (.inl z), some (.inl x44), some (.inl x54), some (.inl x70), some (.inl x82)]) rfl rfl (fun _ => rfl) (fun x294 e295 => ?_)
                              have z296 := any_r x11
                              have t297 := ti_add e295 (by omega) (by omega)
                              refine ur_go rfl ?_
                              obtain ⟨f298, p299, t300⟩ := mf_4 hO292 hc293
                              have t301 := fI_of hc293 p299
                              obtain ⟨f302, p303, t304⟩ := mf_38 hO292 hc293
                              have t305 := fI_of hc293 p303
                              have z306 := any_r x294
                              exact ih18 x294 _ _ _ _ _ hO292 (hu19.tr (hu43.tr (hu94.tr (hu246.tr (hu275.tr (hu285.tr hu292)))))) (by omega) (by omega)
                            · have t307 := lt_no c278
                              refine ur_go rfl ?_
                              refine ur_incV (fun z => [some (.inr (.inr (some 69))), some (.inl a1), some (.inl a2), some (.inl a3), some (.inl x11), some (.inl x44), some (.inl x54), some (.inl x70), some (.inl z)]) rfl rfl (fun _ => rfl) (fun x308 e309 => ?_)
                              have t310 := ti_add e309 (by omega) (by omega)
                              refine ur_go rfl ?_
                              obtain ⟨fs311, hc312⟩ := hO275.mod
                              obtain ⟨f313, p314, t315⟩ := mf_4 hO275 hc312
                              have t316 := fI_of hc312 p314
                              obtain ⟨f317, p318, t319⟩ := mf_38 hO275 hc312
                              have t320 := fI_of hc312 p318
                              have z321 := any_r x308
                              exact ih85 x308 _ hO275 (hu94.tr (hu246.tr hu275)) (by omega) (by omega)
                        · have t322 := ne_no c230
                          refine ur_ldA rfl rfl ?_
                          refine ur_get rfl hc117 (mf_35 hO94 hc117) ?_
                          refine ur_ldI rfl rfl ?_
                          obtain ⟨xs324, hc323, hn325, he326⟩ := hO94.int (hO94.fix 93 (by decide) rfl)
                          refine ur_aldV rfl hc323 hn325 (by omega) (fun x327 hx328 => ?_)
                          refine ur_ldA rfl rfl ?_
                          obtain ⟨f329, p330⟩ := mf_62 hO94 hc117
                          refine ur_get rfl hc117 p330 ?_
                          have z331 := any_r x327
                          have z332 := any_r f329
                          refine ur_if2 rfl (fun c333 => ?_) (fun c333 => ?_)
                          · have t334 := lt_to c333
                            refine ur_ldA rfl rfl ?_
                            refine ur_ldI rfl rfl ?_
                            refine ur_ldI rfl rfl ?_
                            refine ur_ldA rfl rfl ?_
                            refine ur_get rfl hc117 (mf_35 hO94 hc117) ?_
                            refine ur_ldI rfl rfl ?_
                            refine ur_aldV rfl hc323 hn325 (by omega) (fun x335 hx336 => ?_)
                            obtain rfl : x327 = x335 := Option.some.inj (hx328.symm.trans hx336)
                            refine ur_ldI rfl rfl ?_
                            obtain ⟨f337, p338, t339⟩ := mf_4 hO94 hc117
                            have t340 := fI_of hc117 p338
                            have t341 := fI_keep (k := 4) hO0 hO94 (hu19.tr (hu43.tr hu94)) rfl (by decide)
                            have t342 := fI_keep (k := 38) hO0 hO94 (hu19.tr (hu43.tr hu94)) rfl (by decide)
                            refine ur_inl rfl (rcv_of hc117) (Nat.le_of_ble_eq_true rfl) (Nat.le_of_ble_eq_true rfl) (sf_X12_canSee hO94 (hX0.un hO0 hO94 (hu19.tr (hu43.tr hu94)) (by decide)) _ (by show 0 ≤ a2.toInt ∧ a2.toInt ≤ 11; omega) _ _ _ (by omega) (fun w343 h345 hr344 hO345 hv345 => ?_))
                            have hu345 : un [80, 81] h94 h345 := hv345.mono (by decide)
                            obtain ⟨b346, rfl⟩ := hr344
                            show uRun _ (uCall Mt _) _ 155 (_, [(.inl (bi b346))], _, _, _)
                            refine ur_eqB rfl (fun c347 => ?_) (fun c347 => ?_)
                            · refine ur_incV (fun z => [some (.inr (.inr (some 69))), some (.inl a1), some (.inl a2), some (.inl a3), some (.inl x11), some (.inl x44), some (.inl x54), some (.inl x70), some (.inl z)]) rfl rfl (fun _ => rfl) (fun x348 e349 => ?_)
                              have t350 := ti_add e349 (by omega) (by omega)
                              refine ur_go rfl ?_
                              obtain ⟨fs351, hc352⟩ := hO345.mod
                              obtain ⟨f353, p354, t355⟩ := mf_4 hO345 hc352
                              have t356 := fI_of hc352 p354
                              obtain ⟨f357, p358, t359⟩ := mf_38 hO345 hc352
                              have t360 := fI_of hc352 p358
                              have z361 := any_r x348
                              exact ih85 x348 _ hO345 (hu94.tr hu345) (by omega) (by omega)
                            · refine ur_ldA rfl rfl ?_
                              refine ur_ldI rfl rfl ?_
                              refine ur_ldA rfl rfl ?_
                              obtain ⟨fs362, hc363⟩ := hO345.mod
                              refine ur_get rfl hc363 (mf_35 hO345 hc363) ?_
                              refine ur_ldI rfl rfl ?_
                              refine ur_aldV rfl (hv345.ka (n := 10) hc323 hn325 rfl (by decide) (wid_f (by decide)) (by decide)) hn325 (by omega) (fun x364 hx365 => ?_)
                              obtain rfl : x327 = x364 := Option.some.inj (hx328.symm.trans hx365)
                              refine ur_ldI rfl rfl ?_
                              obtain ⟨f366, p367, t368⟩ := mf_4 hO345 hc363
                              have t369 := fI_of hc363 p367
                              have t370 := fI_keep (k := 4) hO0 hO345 (hu19.tr (hu43.tr (hu94.tr hu345))) rfl (by decide)
                              have t371 := fI_keep (k := 38) hO0 hO345 (hu19.tr (hu43.tr (hu94.tr hu345))) rfl (by decide)
                              refine ur_inl rfl (rcv_of hc363) (Nat.le_of_ble_eq_true rfl) (Nat.le_of_ble_eq_true rfl) (sf_X12_seenBy hO345 (hX0.un hO0 hO345 (hu19.tr (hu43.tr (hu94.tr hu345))) (by decide)) _ (by show 0 ≤ a3.toInt ∧ a3.toInt ≤ 11; omega) _ _ (by omega) (fun w372 h374 hr373 hO374 hv374 => ?_))
                              have hu374 := hv374
                              obtain ⟨x375, rfl, t376⟩ := hr373
                              show uRun _ (uCall Mt _) _ 171 (_, [(.inl x375)], _, _, _)
                              refine ur_push rfl ?_
                              refine ur_if2 rfl (fun c377 => ?_) (fun c377 => ?_)
                              · have t378 := lt_to c377
                                refine ur_ldA rfl rfl ?_
                                refine ur_ldI rfl rfl ?_
                                obtain ⟨fs379, hc380⟩ := hO374.mod
                                obtain ⟨f381, p382⟩ := mf_61 hO374 hc380
                                refine ur_putM (W := [80, 81]) rfl hO374 hc380 (by decide) rfl (ms_61 (hO374.msh hc380)) (Or.inl rfl) (fun h384 hO384 hu384 d383 hc385 => ?_)
                                refine ur_ldA rfl rfl ?_
                                refine ur_ldA rfl rfl ?_
                                refine ur_get rfl hc385 (mf_35 hO384 hc385) ?_
                                refine ur_ldI rfl rfl ?_
                                refine ur_aldV rfl ((d383 _ (by decide)).trans (hv374.ka (n := 10) (hv345.ka (n := 10) hc323 hn325 rfl (by decide) (wid_f (by decide)) (by decide)) hn325 rfl (by decide) (wid_f (by decide)) (by decide))) hn325 (by omega) (fun x386 hx387 => ?_)
                                obtain rfl : x327 = x386 := Option.some.inj (hx328.symm.trans hx387)
                                obtain ⟨f388, p389⟩ := mf_62 hO384 hc385
                                refine ur_putM (W := [80, 81]) rfl hO384 hc385 (by decide) rfl (ms_62 (hO384.msh hc385)) (Or.inl rfl) (fun h391 hO391 hu391 d390 hc392 => ?_)
                                refine ur_go rfl ?_
                                refine ur_incV (fun z => [some (.inr (.inr (some 69))), some (.inl a1), some (.inl a2), some (.inl a3), some (.inl z), some (.inl x44), some (.inl x54), some (.inl x70), some (.inl x82)]) rfl rfl (fun _ => rfl) (fun x393 e394 => ?_)
                                have z395 := any_r x11
                                have t396 := ti_add e394 (by omega) (by omega)
                                refine ur_go rfl ?_
                                obtain ⟨f397, p398, t399⟩ := mf_4 hO391 hc392
                                have t400 := fI_of hc392 p398
                                obtain ⟨f401, p402, t403⟩ := mf_38 hO391 hc392
                                have t404 := fI_of hc392 p402
                                have z405 := any_r x393
                                exact ih18 x393 _ _ _ _ _ hO391 (hu19.tr (hu43.tr (hu94.tr (hu345.tr (hu374.tr (hu384.tr hu391)))))) (by omega) (by omega)
                              · have t406 := lt_no c377
                                refine ur_go rfl ?_
                                refine ur_incV (fun z => [some (.inr (.inr (some 69))), some (.inl a1), some (.inl a2), some (.inl a3), some (.inl x11), some (.inl x44), some (.inl x54), some (.inl x70), some (.inl z)]) rfl rfl (fun _ => rfl) (fun x407 e408 => ?_)
                                have t409 := ti_add e408 (by omega) (by omega)
                                refine ur_go rfl ?_
                                obtain ⟨fs410, hc411⟩ := hO374.mod
                                obtain ⟨f412, p413, t414⟩ := mf_4 hO374 hc411
                                have t415 := fI_of hc411 p413
                                obtain ⟨f416, p417, t418⟩ := mf_38 hO374 hc411
                                have t419 := fI_of hc411 p417
                                have z420 := any_r x407
                                exact ih85 x407 _ hO374 (hu94.tr (hu345.tr hu374)) (by omega) (by omega)
                          · have t421 := lt_no c333
                            refine ur_go rfl ?_
                            refine ur_incV (fun z => [some (.inr (.inr (some 69))), some (.inl a1), some (.inl a2), some (.inl a3), some (.inl z), some (.inl x44), some (.inl x54), some (.inl x70), some (.inl x82)]) rfl rfl (fun _ => rfl) (fun x422 e423 => ?_)
                            have z424 := any_r x11
                            have t425 := ti_add e423 (by omega) (by omega)
                            refine ur_go rfl ?_
                            obtain ⟨f426, p427, t428⟩ := mf_4 hO94 hc117
                            have t429 := fI_of hc117 p427
                            obtain ⟨f430, p431, t432⟩ := mf_38 hO94 hc117
                            have t433 := fI_of hc117 p431
                            have z434 := any_r x422
                            exact ih18 x422 _ _ _ _ _ hO94 (hu19.tr (hu43.tr hu94)) (by omega) (by omega)
              exact L83 _ x54 _ hO43 un.rf (by omega) (Nat.lt_succ_self _)
            · have t435 := le_no c78
              refine ur_ldI rfl rfl ?_
              refine ur_push rfl ?_
              refine ur_binV rfl (fun x436 e437 => ?_)
              have t438 := ti_add e437 (by omega) (by omega)
              refine ur_go rfl ?_
              refine ur_svIk [some (.inr (.inr (some 69))), some (.inl a1), some (.inl a2), some (.inl a3), some (.inl x11), some (.inl x44), some (.inl x54), some (.inl x436), u15] rfl rfl ?_
              refine ur_ldI rfl rfl ?_
              refine ur_svIk [some (.inr (.inr (some 69))), some (.inl a1), some (.inl a2), some (.inl a3), some (.inl x11), some (.inl x44), some (.inl x54), some (.inl x436), some (.inl x54)] rfl rfl ?_
              obtain ⟨f443, p444, t445⟩ := mf_4 hO43 hc49
              have t446 := fI_of hc49 p444
              obtain ⟨f447, p448, t449⟩ := mf_38 hO43 hc49
              have t450 := fI_of hc49 p448
              have L440 : ∀ (m441 : Nat) (x439 : Int32) (h451 : aH) , OK h451 → un [80, 81] h43 h451 → ((-120 ≤ x439.toInt ∧ x439.toInt ≤ 2147483647)) → ((2147483648 - x439.toInt).toNat) < m441 → uRun oX12_lookOut (uCall Mt (d + 6)) Q 92 ([some (.inr (.inr (some 69))), some (.inl a1), some (.inl a2), some (.inl a3), some (.inl x11), some (.inl x44), some (.inl x54), some (.inl x436), some (.inl x439)], [], h451, kc, ks) := by
                intro m441
                induction m441 with
                | zero => intro x439 h451 hO451 hu451 iv452 mm453; omega
                | succ m441 ih442 =>
                  intro x439 h451 hO451 hu451 iv452 mm453
                  refine ur_ldI rfl rfl ?_
                  refine ur_ldI rfl rfl ?_
                  have z454 := any_r x439
                  have z455 := any_r x436
                  refine ur_if2 rfl (fun c456 => ?_) (fun c456 => ?_)
                  · have t457 := lt_to c456
                    refine ur_incV (fun z => [some (.inr (.inr (some 69))), some (.inl a1), some (.inl a2), some (.inl a3), some (.inl z), some (.inl x44), some (.inl x54), some (.inl x436), some (.inl x439)]) rfl rfl (fun _ => rfl) (fun x458 e459 => ?_)
                    have z460 := any_r x11
                    have t461 := ti_add e459 (by omega) (by omega)
                    refine ur_go rfl ?_
                    obtain ⟨fs462, hc463⟩ := hO451.mod
                    obtain ⟨f464, p465, t466⟩ := mf_4 hO451 hc463
                    have t467 := fI_of hc463 p465
                    obtain ⟨f468, p469, t470⟩ := mf_38 hO451 hc463
                    have t471 := fI_of hc463 p469
                    have z472 := any_r x458
                    exact ih18 x458 _ _ _ _ _ hO451 (hu19.tr (hu43.tr hu451)) (by omega) (by omega)
                  · have t473 := lt_no c456
                    refine ur_ldA rfl rfl ?_
                    obtain ⟨fs474, hc475⟩ := hO451.mod
                    obtain ⟨f476, p477⟩ := mf_61 hO451 hc475
                    refine ur_get rfl hc475 p477 ?_
                    refine ur_if1 rfl (fun c478 => ?_) (fun c478 => ?_)
                    · have t479 := lt_to c478
                      refine ur_ldA rfl rfl ?_
                      refine ur_ldI rfl rfl ?_
                      refine ur_ldI rfl rfl ?_
                      refine ur_ldA rfl rfl ?_
                      refine ur_get rfl hc475 (mf_35 hO451 hc475) ?_
                      refine ur_ldI rfl rfl ?_
                      obtain ⟨xs481, hc480, hn482, he483⟩ := hO451.int (hO451.fix 93 (by decide) rfl)
                      refine ur_aldV rfl hc480 hn482 (by omega) (fun x484 hx485 => ?_)
                      refine ur_ldI rfl rfl ?_
                      obtain ⟨f486, p487, t488⟩ := mf_4 hO451 hc475
                      have t489 := fI_of hc475 p487
                      have t490 := fI_keep (k := 4) hO0 hO451 (hu19.tr (hu43.tr hu451)) rfl (by decide)
                      have t491 := fI_keep (k := 38) hO0 hO451 (hu19.tr (hu43.tr hu451)) rfl (by decide)
                      refine ur_inl rfl (rcv_of hc475) (Nat.le_of_ble_eq_true rfl) (Nat.le_of_ble_eq_true rfl) (sf_X12_canSee hO451 (hX0.un hO0 hO451 (hu19.tr (hu43.tr hu451)) (by decide)) _ (by show 0 ≤ a2.toInt ∧ a2.toInt ≤ 11; omega) _ _ _ (by omega) (fun w492 h494 hr493 hO494 hv494 => ?_))
                      have hu494 : un [80, 81] h451 h494 := hv494.mono (by decide)
                      obtain ⟨b495, rfl⟩ := hr493
                      show uRun _ (uCall Mt _) _ 155 (_, [(.inl (bi b495))], _, _, _)
                      refine ur_eqB rfl (fun c496 => ?_) (fun c496 => ?_)
                      · refine ur_incV (fun z => [some (.inr (.inr (some 69))), some (.inl a1), some (.inl a2), some (.inl a3), some (.inl x11), some (.inl x44), some (.inl x54), some (.inl x436), some (.inl z)]) rfl rfl (fun _ => rfl) (fun x497 e498 => ?_)
                        have t499 := ti_add e498 (by omega) (by omega)
                        refine ur_go rfl ?_
                        obtain ⟨fs500, hc501⟩ := hO494.mod
                        obtain ⟨f502, p503, t504⟩ := mf_4 hO494 hc501
                        have t505 := fI_of hc501 p503
                        obtain ⟨f506, p507, t508⟩ := mf_38 hO494 hc501
                        have t509 := fI_of hc501 p507
                        have z510 := any_r x497
                        exact ih442 x497 _ hO494 (hu451.tr hu494) (by omega) (by omega)
                      · refine ur_ldA rfl rfl ?_
                        refine ur_ldI rfl rfl ?_
                        refine ur_ldA rfl rfl ?_
                        obtain ⟨fs511, hc512⟩ := hO494.mod
                        refine ur_get rfl hc512 (mf_35 hO494 hc512) ?_
                        refine ur_ldI rfl rfl ?_
                        refine ur_aldV rfl (hv494.ka (n := 10) hc480 hn482 rfl (by decide) (wid_f (by decide)) (by decide)) hn482 (by omega) (fun x513 hx514 => ?_)
                        obtain rfl : x484 = x513 := Option.some.inj (hx485.symm.trans hx514)
                        refine ur_ldI rfl rfl ?_
                        obtain ⟨f515, p516, t517⟩ := mf_4 hO494 hc512
                        have t518 := fI_of hc512 p516
                        have t519 := fI_keep (k := 4) hO0 hO494 (hu19.tr (hu43.tr (hu451.tr hu494))) rfl (by decide)
                        have t520 := fI_keep (k := 38) hO0 hO494 (hu19.tr (hu43.tr (hu451.tr hu494))) rfl (by decide)
                        refine ur_inl rfl (rcv_of hc512) (Nat.le_of_ble_eq_true rfl) (Nat.le_of_ble_eq_true rfl) (sf_X12_seenBy hO494 (hX0.un hO0 hO494 (hu19.tr (hu43.tr (hu451.tr hu494))) (by decide)) _ (by show 0 ≤ a3.toInt ∧ a3.toInt ≤ 11; omega) _ _ (by omega) (fun w521 h523 hr522 hO523 hv523 => ?_))
                        have hu523 := hv523
                        obtain ⟨x524, rfl, t525⟩ := hr522
                        show uRun _ (uCall Mt _) _ 171 (_, [(.inl x524)], _, _, _)
                        refine ur_push rfl ?_
                        refine ur_if2 rfl (fun c526 => ?_) (fun c526 => ?_)
                        · have t527 := lt_to c526
                          refine ur_ldA rfl rfl ?_
                          refine ur_ldI rfl rfl ?_
                          obtain ⟨fs528, hc529⟩ := hO523.mod
                          obtain ⟨f530, p531⟩ := mf_61 hO523 hc529
                          refine ur_putM (W := [80, 81]) rfl hO523 hc529 (by decide) rfl (ms_61 (hO523.msh hc529)) (Or.inl rfl) (fun h533 hO533 hu533 d532 hc534 => ?_)
                          refine ur_ldA rfl rfl ?_
                          refine ur_ldA rfl rfl ?_
                          refine ur_get rfl hc534 (mf_35 hO533 hc534) ?_
                          refine ur_ldI rfl rfl ?_
                          refine ur_aldV rfl ((d532 _ (by decide)).trans (hv523.ka (n := 10) (hv494.ka (n := 10) hc480 hn482 rfl (by decide) (wid_f (by decide)) (by decide)) hn482 rfl (by decide) (wid_f (by decide)) (by decide))) hn482 (by omega) (fun x535 hx536 => ?_)
                          obtain rfl : x484 = x535 := Option.some.inj (hx485.symm.trans hx536)
                          obtain ⟨f537, p538⟩ := mf_62 hO533 hc534
                          refine ur_putM (W := [80, 81]) rfl hO533 hc534 (by decide) rfl (ms_62 (hO533.msh hc534)) (Or.inl rfl) (fun h540 hO540 hu540 d539 hc541 => ?_)
                          refine ur_go rfl ?_
                          refine ur_incV (fun z => [some (.inr (.inr (some 69))), some (.inl a1), some (.inl a2), some (.inl a3), some (.inl z), some (.inl x44), some (.inl x54), some (.inl x436), some (.inl x439)]) rfl rfl (fun _ => rfl) (fun x542 e543 => ?_)
                          have z544 := any_r x11
                          have t545 := ti_add e543 (by omega) (by omega)
                          refine ur_go rfl ?_
                          obtain ⟨f546, p547, t548⟩ := mf_4 hO540 hc541
                          have t549 := fI_of hc541 p547
                          obtain ⟨f550, p551, t552⟩ := mf_38 hO540 hc541
                          have t553 := fI_of hc541 p551
                          have z554 := any_r x542
                          exact ih18 x542 _ _ _ _ _ hO540 (hu19.tr (hu43.tr (hu451.tr (hu494.tr (hu523.tr (hu533.tr hu540)))))) (by omega) (by omega)
                        · have t555 := lt_no c526
                          refine ur_go rfl ?_
                          refine ur_incV (fun z => [some (.inr (.inr (some 69))), some (.inl a1), some (.inl a2), some (.inl a3), some (.inl x11), some (.inl x44), some (.inl x54), some (.inl x436), some (.inl z)]) rfl rfl (fun _ => rfl) (fun x556 e557 => ?_)
                          have t558 := ti_add e557 (by omega) (by omega)
                          refine ur_go rfl ?_
                          obtain ⟨fs559, hc560⟩ := hO523.mod
                          obtain ⟨f561, p562, t563⟩ := mf_4 hO523 hc560
                          have t564 := fI_of hc560 p562
                          obtain ⟨f565, p566, t567⟩ := mf_38 hO523 hc560
                          have t568 := fI_of hc560 p566
                          have z569 := any_r x556
                          exact ih442 x556 _ hO523 (hu451.tr (hu494.tr hu523)) (by omega) (by omega)
                    · have t570 := lt_no c478
                      refine ur_ldI rfl rfl ?_
                      refine ur_ldA rfl rfl ?_
                      refine ur_get rfl hc475 p477 ?_
                      have z571 := any_r f476
                      refine ur_if2 rfl (fun c572 => ?_) (fun c572 => ?_)
                      · have t573 := lt_to c572
                        refine ur_incV (fun z => [some (.inr (.inr (some 69))), some (.inl a1), some (.inl a2), some (.inl a3), some (.inl z), some (.inl x44), some (.inl x54), some (.inl x436), some (.inl x439)]) rfl rfl (fun _ => rfl) (fun x574 e575 => ?_)
                        have z576 := any_r x11
                        have t577 := ti_add e575 (by omega) (by omega)
                        refine ur_go rfl ?_
                        obtain ⟨f578, p579, t580⟩ := mf_4 hO451 hc475
                        have t581 := fI_of hc475 p579
                        obtain ⟨f582, p583, t584⟩ := mf_38 hO451 hc475
                        have t585 := fI_of hc475 p583
                        have z586 := any_r x574
                        exact ih18 x574 _ _ _ _ _ hO451 (hu19.tr (hu43.tr hu451)) (by omega) (by omega)
                      · have t587 := lt_no c572
                        refine ur_ldI rfl rfl ?_
                        refine ur_ldA rfl rfl ?_
                        refine ur_get rfl hc475 p477 ?_
                        refine ur_if2 rfl (fun c588 => ?_) (fun c588 => ?_)
                        · have t589 := ne_to c588
                          refine ur_ldA rfl rfl ?_
                          refine ur_ldI rfl rfl ?_
                          refine ur_ldI rfl rfl ?_
                          refine ur_ldA rfl rfl ?_
                          refine ur_get rfl hc475 (mf_35 hO451 hc475) ?_
                          refine ur_ldI rfl rfl ?_
                          obtain ⟨xs591, hc590, hn592, he593⟩ := hO451.int (hO451.fix 93 (by decide) rfl)
                          refine ur_aldV rfl hc590 hn592 (by omega) (fun x594 hx595 => ?_)
                          refine ur_ldI rfl rfl ?_
                          obtain ⟨f596, p597, t598⟩ := mf_4 hO451 hc475
                          have t599 := fI_of hc475 p597
                          have t600 := fI_keep (k := 4) hO0 hO451 (hu19.tr (hu43.tr hu451)) rfl (by decide)
                          have t601 := fI_keep (k := 38) hO0 hO451 (hu19.tr (hu43.tr hu451)) rfl (by decide)
                          refine ur_inl rfl (rcv_of hc475) (Nat.le_of_ble_eq_true rfl) (Nat.le_of_ble_eq_true rfl) (sf_X12_canSee hO451 (hX0.un hO0 hO451 (hu19.tr (hu43.tr hu451)) (by decide)) _ (by show 0 ≤ a2.toInt ∧ a2.toInt ≤ 11; omega) _ _ _ (by omega) (fun w602 h604 hr603 hO604 hv604 => ?_))
                          have hu604 : un [80, 81] h451 h604 := hv604.mono (by decide)
                          obtain ⟨b605, rfl⟩ := hr603
                          show uRun _ (uCall Mt _) _ 155 (_, [(.inl (bi b605))], _, _, _)
                          refine ur_eqB rfl (fun c606 => ?_) (fun c606 => ?_)
                          · refine ur_incV (fun z => [some (.inr (.inr (some 69))), some (.inl a1), some (.inl a2), some (.inl a3), some (.inl x11), some (.inl x44), some (.inl x54), some (.inl x436), some (.inl z)]) rfl rfl (fun _ => rfl) (fun x607 e608 => ?_)
                            have t609 := ti_add e608 (by omega) (by omega)
                            refine ur_go rfl ?_
                            obtain ⟨fs610, hc611⟩ := hO604.mod
                            obtain ⟨f612, p613, t614⟩ := mf_4 hO604 hc611
                            have t615 := fI_of hc611 p613
                            obtain ⟨f616, p617, t618⟩ := mf_38 hO604 hc611
                            have t619 := fI_of hc611 p617
                            have z620 := any_r x607
                            exact ih442 x607 _ hO604 (hu451.tr hu604) (by omega) (by omega)
                          · refine ur_ldA rfl rfl ?_
                            refine ur_ldI rfl rfl ?_
                            refine ur_ldA rfl rfl ?_
                            obtain ⟨fs621, hc622⟩ := hO604.mod
                            refine ur_get rfl hc622 (mf_35 hO604 hc622) ?_
                            refine ur_ldI rfl rfl ?_
                            refine ur_aldV rfl (hv604.ka (n := 10) hc590 hn592 rfl (by decide) (wid_f (by decide)) (by decide)) hn592 (by omega) (fun x623 hx624 => ?_)
                            obtain rfl : x594 = x623 := Option.some.inj (hx595.symm.trans hx624)
                            refine ur_ldI rfl rfl ?_
                            obtain ⟨f625, p626, t627⟩ := mf_4 hO604 hc622
                            have t628 := fI_of hc622 p626
                            have t629 := fI_keep (k := 4) hO0 hO604 (hu19.tr (hu43.tr (hu451.tr hu604))) rfl (by decide)
                            have t630 := fI_keep (k := 38) hO0 hO604 (hu19.tr (hu43.tr (hu451.tr hu604))) rfl (by decide)
                            refine ur_inl rfl (rcv_of hc622) (Nat.le_of_ble_eq_true rfl) (Nat.le_of_ble_eq_true rfl) (sf_X12_seenBy hO604 (hX0.un hO0 hO604 (hu19.tr (hu43.tr (hu451.tr hu604))) (by decide)) _ (by show 0 ≤ a3.toInt ∧ a3.toInt ≤ 11; omega) _ _ (by omega) (fun w631 h633 hr632 hO633 hv633 => ?_))
                            have hu633 := hv633
                            obtain ⟨x634, rfl, t635⟩ := hr632
                            show uRun _ (uCall Mt _) _ 171 (_, [(.inl x634)], _, _, _)
                            refine ur_push rfl ?_
                            refine ur_if2 rfl (fun c636 => ?_) (fun c636 => ?_)
                            · have t637 := lt_to c636
                              refine ur_ldA rfl rfl ?_
                              refine ur_ldI rfl rfl ?_
                              obtain ⟨fs638, hc639⟩ := hO633.mod
                              obtain ⟨f640, p641⟩ := mf_61 hO633 hc639
                              refine ur_putM (W := [80, 81]) rfl hO633 hc639 (by decide) rfl (ms_61 (hO633.msh hc639)) (Or.inl rfl) (fun h643 hO643 hu643 d642 hc644 => ?_)
                              refine ur_ldA rfl rfl ?_
                              refine ur_ldA rfl rfl ?_
                              refine ur_get rfl hc644 (mf_35 hO643 hc644) ?_
                              refine ur_ldI rfl rfl ?_
                              refine ur_aldV rfl ((d642 _ (by decide)).trans (hv633.ka (n := 10) (hv604.ka (n := 10) hc590 hn592 rfl (by decide) (wid_f (by decide)) (by decide)) hn592 rfl (by decide) (wid_f (by decide)) (by decide))) hn592 (by omega) (fun x645 hx646 => ?_)
                              obtain rfl : x594 = x645 := Option.some.inj (hx595.symm.trans hx646)
                              obtain ⟨f647, p648⟩ := mf_62 hO643 hc644
                              refine ur_putM (W := [80, 81]) rfl hO643 hc644 (by decide) rfl (ms_62 (hO643.msh hc644)) (Or.inl rfl) (fun h650 hO650 hu650 d649 hc651 => ?_)
                              refine ur_go rfl ?_
                              refine ur_incV (fun z => [some (.inr (.inr (some 69))), some (.inl a1), some (.inl a2), some (.inl a3), some (.inl z), some (.inl x44), some (.inl x54), some (.inl x436), some (.inl x439)]) rfl rfl (fun _ => rfl) (fun x652 e653 => ?_)
                              have z654 := any_r x11
                              have t655 := ti_add e653 (by omega) (by omega)
                              refine ur_go rfl ?_
                              obtain ⟨f656, p657, t658⟩ := mf_4 hO650 hc651
                              have t659 := fI_of hc651 p657
                              obtain ⟨f660, p661, t662⟩ := mf_38 hO650 hc651
                              have t663 := fI_of hc651 p661
                              have z664 := any_r x652
                              exact ih18 x652 _ _ _ _ _ hO650 (hu19.tr (hu43.tr (hu451.tr (hu604.tr (hu633.tr (hu643.tr hu650)))))) (by omega) (by omega)
                            · have t665 := lt_no c636
                              refine ur_go rfl ?_
                              refine ur_incV (fun z => [some (.inr (.inr (some 69))), some (.inl a1), some (.inl a2), some (.inl a3), some (.inl x11), some (.inl x44), some (.inl x54), some (.inl x436), some (.inl z)]) rfl rfl (fun _ => rfl) (fun x666 e667 => ?_)
                              have t668 := ti_add e667 (by omega) (by omega)
                              refine ur_go rfl ?_
                              obtain ⟨fs669, hc670⟩ := hO633.mod
                              obtain ⟨f671, p672, t673⟩ := mf_4 hO633 hc670
                              have t674 := fI_of hc670 p672
                              obtain ⟨f675, p676, t677⟩ := mf_38 hO633 hc670
                              have t678 := fI_of hc670 p676
                              have z679 := any_r x666
                              exact ih442 x666 _ hO633 (hu451.tr (hu604.tr hu633)) (by omega) (by omega)
                        · have t680 := ne_no c588
                          refine ur_ldA rfl rfl ?_
                          refine ur_get rfl hc475 (mf_35 hO451 hc475) ?_
                          refine ur_ldI rfl rfl ?_
                          obtain ⟨xs682, hc681, hn683, he684⟩ := hO451.int (hO451.fix 93 (by decide) rfl)
                          refine ur_aldV rfl hc681 hn683 (by omega) (fun x685 hx686 => ?_)
                          refine ur_ldA rfl rfl ?_
                          obtain ⟨f687, p688⟩ := mf_62 hO451 hc475
                          refine ur_get rfl hc475 p688 ?_
                          have z689 := any_r x685
                          have z690 := any_r f687
                          refine ur_if2 rfl (fun c691 => ?_) (fun c691 => ?_)
                          · have t692 := lt_to c691
                            refine ur_ldA rfl rfl ?_
                            refine ur_ldI rfl rfl ?_
                            refine ur_ldI rfl rfl ?_
                            refine ur_ldA rfl rfl ?_
                            refine ur_get rfl hc475 (mf_35 hO451 hc475) ?_
                            refine ur_ldI rfl rfl ?_
                            refine ur_aldV rfl hc681 hn683 (by omega) (fun x693 hx694 => ?_)
                            obtain rfl : x685 = x693 := Option.some.inj (hx686.symm.trans hx694)
                            refine ur_ldI rfl rfl ?_
                            obtain ⟨f695, p696, t697⟩ := mf_4 hO451 hc475
                            have t698 := fI_of hc475 p696
                            have t699 := fI_keep (k := 4) hO0 hO451 (hu19.tr (hu43.tr hu451)) rfl (by decide)
                            have t700 := fI_keep (k := 38) hO0 hO451 (hu19.tr (hu43.tr hu451)) rfl (by decide)
                            refine ur_inl rfl (rcv_of hc475) (Nat.le_of_ble_eq_true rfl) (Nat.le_of_ble_eq_true rfl) (sf_X12_canSee hO451 (hX0.un hO0 hO451 (hu19.tr (hu43.tr hu451)) (by decide)) _ (by show 0 ≤ a2.toInt ∧ a2.toInt ≤ 11; omega) _ _ _ (by omega) (fun w701 h703 hr702 hO703 hv703 => ?_))
                            have hu703 : un [80, 81] h451 h703 := hv703.mono (by decide)
                            obtain ⟨b704, rfl⟩ := hr702
                            show uRun _ (uCall Mt _) _ 155 (_, [(.inl (bi b704))], _, _, _)
                            refine ur_eqB rfl (fun c705 => ?_) (fun c705 => ?_)
                            · refine ur_incV (fun z => [some (.inr (.inr (some 69))), some (.inl a1), some (.inl a2), some (.inl a3), some (.inl x11), some (.inl x44), some (.inl x54), some (.inl x436), some (.inl z)]) rfl rfl (fun _ => rfl) (fun x706 e707 => ?_)
                              have t708 := ti_add e707 (by omega) (by omega)
                              refine ur_go rfl ?_
                              obtain ⟨fs709, hc710⟩ := hO703.mod
                              obtain ⟨f711, p712, t713⟩ := mf_4 hO703 hc710
                              have t714 := fI_of hc710 p712
                              obtain ⟨f715, p716, t717⟩ := mf_38 hO703 hc710
                              have t718 := fI_of hc710 p716
                              have z719 := any_r x706
                              exact ih442 x706 _ hO703 (hu451.tr hu703) (by omega) (by omega)
                            · refine ur_ldA rfl rfl ?_
                              refine ur_ldI rfl rfl ?_
                              refine ur_ldA rfl rfl ?_
                              obtain ⟨fs720, hc721⟩ := hO703.mod
                              refine ur_get rfl hc721 (mf_35 hO703 hc721) ?_
                              refine ur_ldI rfl rfl ?_
                              refine ur_aldV rfl (hv703.ka (n := 10) hc681 hn683 rfl (by decide) (wid_f (by decide)) (by decide)) hn683 (by omega) (fun x722 hx723 => ?_)
                              obtain rfl : x685 = x722 := Option.some.inj (hx686.symm.trans hx723)
                              refine ur_ldI rfl rfl ?_
                              obtain ⟨f724, p725, t726⟩ := mf_4 hO703 hc721
                              have t727 := fI_of hc721 p725
                              have t728 := fI_keep (k := 4) hO0 hO703 (hu19.tr (hu43.tr (hu451.tr hu703))) rfl (by decide)
                              have t729 := fI_keep (k := 38) hO0 hO703 (hu19.tr (hu43.tr (hu451.tr hu703))) rfl (by decide)
                              refine ur_inl rfl (rcv_of hc721) (Nat.le_of_ble_eq_true rfl) (Nat.le_of_ble_eq_true rfl) (sf_X12_seenBy hO703 (hX0.un hO0 hO703 (hu19.tr (hu43.tr (hu451.tr hu703))) (by decide)) _ (by show 0 ≤ a3.toInt ∧ a3.toInt ≤ 11; omega) _ _ (by omega) (fun w730 h732 hr731 hO732 hv732 => ?_))
                              have hu732 := hv732
                              obtain ⟨x733, rfl, t734⟩ := hr731
                              show uRun _ (uCall Mt _) _ 171 (_, [(.inl x733)], _, _, _)
                              refine ur_push rfl ?_
                              refine ur_if2 rfl (fun c735 => ?_) (fun c735 => ?_)
                              · have t736 := lt_to c735
                                refine ur_ldA rfl rfl ?_
                                refine ur_ldI rfl rfl ?_
                                obtain ⟨fs737, hc738⟩ := hO732.mod
                                obtain ⟨f739, p740⟩ := mf_61 hO732 hc738
                                refine ur_putM (W := [80, 81]) rfl hO732 hc738 (by decide) rfl (ms_61 (hO732.msh hc738)) (Or.inl rfl) (fun h742 hO742 hu742 d741 hc743 => ?_)
                                refine ur_ldA rfl rfl ?_
                                refine ur_ldA rfl rfl ?_
                                refine ur_get rfl hc743 (mf_35 hO742 hc743) ?_
                                refine ur_ldI rfl rfl ?_
                                refine ur_aldV rfl ((d741 _ (by decide)).trans (hv732.ka (n := 10) (hv703.ka (n := 10) hc681 hn683 rfl (by decide) (wid_f (by decide)) (by decide)) hn683 rfl (by decide) (wid_f (by decide)) (by decide))) hn683 (by omega) (fun x744 hx745 => ?_)
                                obtain rfl : x685 = x744 := Option.some.inj (hx686.symm.trans hx745)
                                obtain ⟨f746, p747⟩ := mf_62 hO742 hc743
                                refine ur_putM (W := [80, 81]) rfl hO742 hc743 (by decide) rfl (ms_62 (hO742.msh hc743)) (Or.inl rfl) (fun h749 hO749 hu749 d748 hc750 => ?_)
                                refine ur_go rfl ?_
                                refine ur_incV (fun z => [some (.inr (.inr (some 69))), some (.inl a1), some (.inl a2), some (.inl a3), some (.inl z), some (.inl x44), some (.inl x54), some (.inl x436), some (.inl x439)]) rfl rfl (fun _ => rfl) (fun x751 e752 => ?_)
                                have z753 := any_r x11
                                have t754 := ti_add e752 (by omega) (by omega)
                                refine ur_go rfl ?_
                                obtain ⟨f755, p756, t757⟩ := mf_4 hO749 hc750
                                have t758 := fI_of hc750 p756
                                obtain ⟨f759, p760, t761⟩ := mf_38 hO749 hc750
                                have t762 := fI_of hc750 p760
                                have z763 := any_r x751
                                exact ih18 x751 _ _ _ _ _ hO749 (hu19.tr (hu43.tr (hu451.tr (hu703.tr (hu732.tr (hu742.tr hu749)))))) (by omega) (by omega)
                              · have t764 := lt_no c735
                                refine ur_go rfl ?_
                                refine ur_incV (fun z => [some (.inr (.inr (some 69))), some (.inl a1), some (.inl a2), some (.inl a3), some (.inl x11), some (.inl x44), some (.inl x54), some (.inl x436), some (.inl z)]) rfl rfl (fun _ => rfl) (fun x765 e766 => ?_)
                                have t767 := ti_add e766 (by omega) (by omega)
                                refine ur_go rfl ?_
                                obtain ⟨fs768, hc769⟩ := hO732.mod
                                obtain ⟨f770, p771, t772⟩ := mf_4 hO732 hc769
                                have t773 := fI_of hc769 p771
                                obtain ⟨f774, p775, t776⟩ := mf_38 hO732 hc769
                                have t777 := fI_of hc769 p775
                                have z778 := any_r x765
                                exact ih442 x765 _ hO732 (hu451.tr (hu703.tr hu732)) (by omega) (by omega)
                          · have t779 := lt_no c691
                            refine ur_go rfl ?_
                            refine ur_incV (fun z => [some (.inr (.inr (some 69))), some (.inl a1), some (.inl a2), some (.inl a3), some (.inl z), some (.inl x44), some (.inl x54), some (.inl x436), some (.inl x439)]) rfl rfl (fun _ => rfl) (fun x780 e781 => ?_)
                            have z782 := any_r x11
                            have t783 := ti_add e781 (by omega) (by omega)
                            refine ur_go rfl ?_
                            obtain ⟨f784, p785, t786⟩ := mf_4 hO451 hc475
                            have t787 := fI_of hc475 p785
                            obtain ⟨f788, p789, t790⟩ := mf_38 hO451 hc475
                            have t791 := fI_of hc475 p789
                            have z792 := any_r x780
                            exact ih18 x780 _ _ _ _ _ hO451 (hu19.tr (hu43.tr hu451)) (by omega) (by omega)
              exact L440 _ x54 _ hO43 un.rf (by omega) (Nat.lt_succ_self _)
          · have t793 := le_no c62
            refine ur_ldI rfl rfl ?_
            refine ur_push rfl ?_
            refine ur_binV rfl (fun x794 e795 => ?_)
            have t796 := ti_sub e795 (by omega) (by omega)
            refine ur_go rfl ?_
            refine ur_svIk [some (.inr (.inr (some 69))), some (.inl a1), some (.inl a2), some (.inl a3), some (.inl x11), some (.inl x44), some (.inl x794), u14, u15] rfl rfl ?_
            refine ur_ldA rfl rfl ?_
            refine ur_get rfl hc49 (mf_37 hO43 hc49) ?_
            refine ur_ldI rfl rfl ?_
            obtain ⟨xs798, hc797, hn799, he800⟩ := hO43.int (hO43.fix 95 (by decide) rfl)
            refine ur_aldV rfl hc797 hn799 (by omega) (fun x801 hx802 => ?_)
            have t803 : 0 ≤ x801.toInt ∧ x801.toInt ≤ 999999 := he800 _ _ hx802
            refine ur_ldI rfl rfl ?_
            refine ur_push rfl ?_
            refine ur_binV rfl (fun x804 e805 => ?_)
            have t806 := ti_add e805 (by omega) (by omega)
            have z807 := any_r x801
            have z808 := any_r x804
            refine ur_if2 rfl (fun c809 => ?_) (fun c809 => ?_)
            · have t810 := le_to c809
              refine ur_ldA rfl rfl ?_
              refine ur_get rfl hc49 (mf_37 hO43 hc49) ?_
              refine ur_ldI rfl rfl ?_
              refine ur_aldV rfl hc797 hn799 (by omega) (fun x811 hx812 => ?_)
              obtain rfl : x801 = x811 := Option.some.inj (hx802.symm.trans hx812)
              refine ur_svIk [some (.inr (.inr (some 69))), some (.inl a1), some (.inl a2), some (.inl a3), some (.inl x11), some (.inl x44), some (.inl x794), some (.inl x801), u15] rfl rfl ?_
              refine ur_ldI rfl rfl ?_
              refine ur_svIk [some (.inr (.inr (some 69))), some (.inl a1), some (.inl a2), some (.inl a3), some (.inl x11), some (.inl x44), some (.inl x794), some (.inl x801), some (.inl x794)] rfl rfl ?_
              obtain ⟨f817, p818, t819⟩ := mf_4 hO43 hc49
              have t820 := fI_of hc49 p818
              obtain ⟨f821, p822, t823⟩ := mf_38 hO43 hc49
              have t824 := fI_of hc49 p822
              have L814 : ∀ (m815 : Nat) (x813 : Int32) (h825 : aH) , OK h825 → un [80, 81] h43 h825 → ((-120 ≤ x813.toInt ∧ x813.toInt ≤ 2147483647)) → ((2147483648 - x813.toInt).toNat) < m815 → uRun oX12_lookOut (uCall Mt (d + 6)) Q 92 ([some (.inr (.inr (some 69))), some (.inl a1), some (.inl a2), some (.inl a3), some (.inl x11), some (.inl x44), some (.inl x794), some (.inl x801), some (.inl x813)], [], h825, kc, ks) := by
                intro m815
                induction m815 with
                | zero => intro x813 h825 hO825 hu825 iv826 mm827; omega
                | succ m815 ih816 =>
                  intro x813 h825 hO825 hu825 iv826 mm827
                  refine ur_ldI rfl rfl ?_
                  refine ur_ldI rfl rfl ?_
                  have z828 := any_r x813
                  refine ur_if2 rfl (fun c829 => ?_) (fun c829 => ?_)
                  · have t830 := lt_to c829
                    refine ur_incV (fun z => [some (.inr (.inr (some 69))), some (.inl a1), some (.inl a2), some (.inl a3), some (.inl z), some (.inl x44), some (.inl x794), some (.inl x801), some (.inl x813)]) rfl rfl (fun _ => rfl) (fun x831 e832 => ?_)
                    have z833 := any_r x11
                    have t834 := ti_add e832 (by omega) (by omega)
                    refine ur_go rfl ?_
                    obtain ⟨fs835, hc836⟩ := hO825.mod
                    obtain ⟨f837, p838, t839⟩ := mf_4 hO825 hc836
                    have t840 := fI_of hc836 p838
                    obtain ⟨f841, p842, t843⟩ := mf_38 hO825 hc836
                    have t844 := fI_of hc836 p842
                    have z845 := any_r x831
                    exact ih18 x831 _ _ _ _ _ hO825 (hu19.tr (hu43.tr hu825)) (by omega) (by omega)
                  · have t846 := lt_no c829
                    refine ur_ldA rfl rfl ?_
                    obtain ⟨fs847, hc848⟩ := hO825.mod
                    obtain ⟨f849, p850⟩ := mf_61 hO825 hc848
                    refine ur_get rfl hc848 p850 ?_
                    refine ur_if1 rfl (fun c851 => ?_) (fun c851 => ?_)
                    · have t852 := lt_to c851
                      refine ur_ldA rfl rfl ?_
                      refine ur_ldI rfl rfl ?_
                      refine ur_ldI rfl rfl ?_
                      refine ur_ldA rfl rfl ?_
                      refine ur_get rfl hc848 (mf_35 hO825 hc848) ?_
                      refine ur_ldI rfl rfl ?_
                      obtain ⟨xs854, hc853, hn855, he856⟩ := hO825.int (hO825.fix 93 (by decide) rfl)
                      refine ur_aldV rfl hc853 hn855 (by omega) (fun x857 hx858 => ?_)
                      refine ur_ldI rfl rfl ?_
                      obtain ⟨f859, p860, t861⟩ := mf_4 hO825 hc848
                      have t862 := fI_of hc848 p860
                      have t863 := fI_keep (k := 4) hO0 hO825 (hu19.tr (hu43.tr hu825)) rfl (by decide)
                      have t864 := fI_keep (k := 38) hO0 hO825 (hu19.tr (hu43.tr hu825)) rfl (by decide)
                      refine ur_inl rfl (rcv_of hc848) (Nat.le_of_ble_eq_true rfl) (Nat.le_of_ble_eq_true rfl) (sf_X12_canSee hO825 (hX0.un hO0 hO825 (hu19.tr (hu43.tr hu825)) (by decide)) _ (by show 0 ≤ a2.toInt ∧ a2.toInt ≤ 11; omega) _ _ _ (by omega) (fun w865 h867 hr866 hO867 hv867 => ?_))
                      have hu867 : un [80, 81] h825 h867 := hv867.mono (by decide)
                      obtain ⟨b868, rfl⟩ := hr866
                      show uRun _ (uCall Mt _) _ 155 (_, [(.inl (bi b868))], _, _, _)
                      refine ur_eqB rfl (fun c869 => ?_) (fun c869 => ?_)
                      · refine ur_incV (fun z => [some (.inr (.inr (some 69))), some (.inl a1), some (.inl a2), some (.inl a3), some (.inl x11), some (.inl x44), some (.inl x794), some (.inl x801), some (.inl z)]) rfl rfl (fun _ => rfl) (fun x870 e871 => ?_)
                        have t872 := ti_add e871 (by omega) (by omega)
                        refine ur_go rfl ?_
                        obtain ⟨fs873, hc874⟩ := hO867.mod
                        obtain ⟨f875, p876, t877⟩ := mf_4 hO867 hc874
                        have t878 := fI_of hc874 p876
                        obtain ⟨f879, p880, t881⟩ := mf_38 hO867 hc874
                        have t882 := fI_of hc874 p880
                        have z883 := any_r x870
                        exact ih816 x870 _ hO867 (hu825.tr hu867) (by omega) (by omega)
                      · refine ur_ldA rfl rfl ?_
                        refine ur_ldI rfl rfl ?_
                        refine ur_ldA rfl rfl ?_
                        obtain ⟨fs884, hc885⟩ := hO867.mod
                        refine ur_get rfl hc885 (mf_35 hO867 hc885) ?_
                        refine ur_ldI rfl rfl ?_
                        refine ur_aldV rfl (hv867.ka (n := 10) hc853 hn855 rfl (by decide) (wid_f (by decide)) (by decide)) hn855 (by omega) (fun x886 hx887 => ?_)
                        obtain rfl : x857 = x886 := Option.some.inj (hx858.symm.trans hx887)
                        refine ur_ldI rfl rfl ?_
                        obtain ⟨f888, p889, t890⟩ := mf_4 hO867 hc885
                        have t891 := fI_of hc885 p889
                        have t892 := fI_keep (k := 4) hO0 hO867 (hu19.tr (hu43.tr (hu825.tr hu867))) rfl (by decide)
                        have t893 := fI_keep (k := 38) hO0 hO867 (hu19.tr (hu43.tr (hu825.tr hu867))) rfl (by decide)
                        refine ur_inl rfl (rcv_of hc885) (Nat.le_of_ble_eq_true rfl) (Nat.le_of_ble_eq_true rfl) (sf_X12_seenBy hO867 (hX0.un hO0 hO867 (hu19.tr (hu43.tr (hu825.tr hu867))) (by decide)) _ (by show 0 ≤ a3.toInt ∧ a3.toInt ≤ 11; omega) _ _ (by omega) (fun w894 h896 hr895 hO896 hv896 => ?_))
                        have hu896 := hv896
                        obtain ⟨x897, rfl, t898⟩ := hr895
                        show uRun _ (uCall Mt _) _ 171 (_, [(.inl x897)], _, _, _)
                        refine ur_push rfl ?_
                        refine ur_if2 rfl (fun c899 => ?_) (fun c899 => ?_)
                        · have t900 := lt_to c899
                          refine ur_ldA rfl rfl ?_
                          refine ur_ldI rfl rfl ?_
                          obtain ⟨fs901, hc902⟩ := hO896.mod
                          obtain ⟨f903, p904⟩ := mf_61 hO896 hc902
                          refine ur_putM (W := [80, 81]) rfl hO896 hc902 (by decide) rfl (ms_61 (hO896.msh hc902)) (Or.inl rfl) (fun h906 hO906 hu906 d905 hc907 => ?_)
                          refine ur_ldA rfl rfl ?_
                          refine ur_ldA rfl rfl ?_
                          refine ur_get rfl hc907 (mf_35 hO906 hc907) ?_
                          refine ur_ldI rfl rfl ?_
                          refine ur_aldV rfl ((d905 _ (by decide)).trans (hv896.ka (n := 10) (hv867.ka (n := 10) hc853 hn855 rfl (by decide) (wid_f (by decide)) (by decide)) hn855 rfl (by decide) (wid_f (by decide)) (by decide))) hn855 (by omega) (fun x908 hx909 => ?_)
                          obtain rfl : x857 = x908 := Option.some.inj (hx858.symm.trans hx909)
                          obtain ⟨f910, p911⟩ := mf_62 hO906 hc907
                          refine ur_putM (W := [80, 81]) rfl hO906 hc907 (by decide) rfl (ms_62 (hO906.msh hc907)) (Or.inl rfl) (fun h913 hO913 hu913 d912 hc914 => ?_)
                          refine ur_go rfl ?_
                          refine ur_incV (fun z => [some (.inr (.inr (some 69))), some (.inl a1), some (.inl a2), some (.inl a3), some (.inl z), some (.inl x44), some (.inl x794), some (.inl x801), some (.inl x813)]) rfl rfl (fun _ => rfl) (fun x915 e916 => ?_)
                          have z917 := any_r x11
                          have t918 := ti_add e916 (by omega) (by omega)
                          refine ur_go rfl ?_
                          obtain ⟨f919, p920, t921⟩ := mf_4 hO913 hc914
                          have t922 := fI_of hc914 p920
                          obtain ⟨f923, p924, t925⟩ := mf_38 hO913 hc914
                          have t926 := fI_of hc914 p924
                          have z927 := any_r x915
                          exact ih18 x915 _ _ _ _ _ hO913 (hu19.tr (hu43.tr (hu825.tr (hu867.tr (hu896.tr (hu906.tr hu913)))))) (by omega) (by omega)
                        · have t928 := lt_no c899
                          refine ur_go rfl ?_
                          refine ur_incV (fun z => [some (.inr (.inr (some 69))), some (.inl a1), some (.inl a2), some (.inl a3), some (.inl x11), some (.inl x44), some (.inl x794), some (.inl x801), some (.inl z)]) rfl rfl (fun _ => rfl) (fun x929 e930 => ?_)
                          have t931 := ti_add e930 (by omega) (by omega)
                          refine ur_go rfl ?_
                          obtain ⟨fs932, hc933⟩ := hO896.mod
                          obtain ⟨f934, p935, t936⟩ := mf_4 hO896 hc933
                          have t937 := fI_of hc933 p935
                          obtain ⟨f938, p939, t940⟩ := mf_38 hO896 hc933
                          have t941 := fI_of hc933 p939
                          have z942 := any_r x929
                          exact ih816 x929 _ hO896 (hu825.tr (hu867.tr hu896)) (by omega) (by omega)
                    · have t943 := lt_no c851
                      refine ur_ldI rfl rfl ?_
                      refine ur_ldA rfl rfl ?_
                      refine ur_get rfl hc848 p850 ?_
                      have z944 := any_r f849
                      refine ur_if2 rfl (fun c945 => ?_) (fun c945 => ?_)
                      · have t946 := lt_to c945
                        refine ur_incV (fun z => [some (.inr (.inr (some 69))), some (.inl a1), some (.inl a2), some (.inl a3), some (.inl z), some (.inl x44), some (.inl x794), some (.inl x801), some (.inl x813)]) rfl rfl (fun _ => rfl) (fun x947 e948 => ?_)
                        have z949 := any_r x11
                        have t950 := ti_add e948 (by omega) (by omega)
                        refine ur_go rfl ?_
                        obtain ⟨f951, p952, t953⟩ := mf_4 hO825 hc848
                        have t954 := fI_of hc848 p952
                        obtain ⟨f955, p956, t957⟩ := mf_38 hO825 hc848
                        have t958 := fI_of hc848 p956
                        have z959 := any_r x947
                        exact ih18 x947 _ _ _ _ _ hO825 (hu19.tr (hu43.tr hu825)) (by omega) (by omega)
                      · have t960 := lt_no c945
                        refine ur_ldI rfl rfl ?_
                        refine ur_ldA rfl rfl ?_
                        refine ur_get rfl hc848 p850 ?_
                        refine ur_if2 rfl (fun c961 => ?_) (fun c961 => ?_)
                        · have t962 := ne_to c961
                          refine ur_ldA rfl rfl ?_
                          refine ur_ldI rfl rfl ?_
                          refine ur_ldI rfl rfl ?_
                          refine ur_ldA rfl rfl ?_
                          refine ur_get rfl hc848 (mf_35 hO825 hc848) ?_
                          refine ur_ldI rfl rfl ?_
                          obtain ⟨xs964, hc963, hn965, he966⟩ := hO825.int (hO825.fix 93 (by decide) rfl)
                          refine ur_aldV rfl hc963 hn965 (by omega) (fun x967 hx968 => ?_)
                          refine ur_ldI rfl rfl ?_
                          obtain ⟨f969, p970, t971⟩ := mf_4 hO825 hc848
                          have t972 := fI_of hc848 p970
                          have t973 := fI_keep (k := 4) hO0 hO825 (hu19.tr (hu43.tr hu825)) rfl (by decide)
                          have t974 := fI_keep (k := 38) hO0 hO825 (hu19.tr (hu43.tr hu825)) rfl (by decide)
                          refine ur_inl rfl (rcv_of hc848) (Nat.le_of_ble_eq_true rfl) (Nat.le_of_ble_eq_true rfl) (sf_X12_canSee hO825 (hX0.un hO0 hO825 (hu19.tr (hu43.tr hu825)) (by decide)) _ (by show 0 ≤ a2.toInt ∧ a2.toInt ≤ 11; omega) _ _ _ (by omega) (fun w975 h977 hr976 hO977 hv977 => ?_))
                          have hu977 : un [80, 81] h825 h977 := hv977.mono (by decide)
                          obtain ⟨b978, rfl⟩ := hr976
                          show uRun _ (uCall Mt _) _ 155 (_, [(.inl (bi b978))], _, _, _)
                          refine ur_eqB rfl (fun c979 => ?_) (fun c979 => ?_)
                          · refine ur_incV (fun z => [some (.inr (.inr (some 69))), some (.inl a1), some (.inl a2), some (.inl a3), some (.inl x11), some (.inl x44), some (.inl x794), some (.inl x801), some (.inl z)]) rfl rfl (fun _ => rfl) (fun x980 e981 => ?_)
                            have t982 := ti_add e981 (by omega) (by omega)
                            refine ur_go rfl ?_
                            obtain ⟨fs983, hc984⟩ := hO977.mod
                            obtain ⟨f985, p986, t987⟩ := mf_4 hO977 hc984
                            have t988 := fI_of hc984 p986
                            obtain ⟨f989, p990, t991⟩ := mf_38 hO977 hc984
                            have t992 := fI_of hc984 p990
                            have z993 := any_r x980
                            exact ih816 x980 _ hO977 (hu825.tr hu977) (by omega) (by omega)
                          · refine ur_ldA rfl rfl ?_
                            refine ur_ldI rfl rfl ?_
                            refine ur_ldA rfl rfl ?_
                            obtain ⟨fs994, hc995⟩ := hO977.mod
                            refine ur_get rfl hc995 (mf_35 hO977 hc995) ?_
                            refine ur_ldI rfl rfl ?_
                            refine ur_aldV rfl (hv977.ka (n := 10) hc963 hn965 rfl (by decide) (wid_f (by decide)) (by decide)) hn965 (by omega) (fun x996 hx997 => ?_)
                            obtain rfl : x967 = x996 := Option.some.inj (hx968.symm.trans hx997)
                            refine ur_ldI rfl rfl ?_
                            obtain ⟨f998, p999, t1000⟩ := mf_4 hO977 hc995
                            have t1001 := fI_of hc995 p999
                            have t1002 := fI_keep (k := 4) hO0 hO977 (hu19.tr (hu43.tr (hu825.tr hu977))) rfl (by decide)
                            have t1003 := fI_keep (k := 38) hO0 hO977 (hu19.tr (hu43.tr (hu825.tr hu977))) rfl (by decide)
                            refine ur_inl rfl (rcv_of hc995) (Nat.le_of_ble_eq_true rfl) (Nat.le_of_ble_eq_true rfl) (sf_X12_seenBy hO977 (hX0.un hO0 hO977 (hu19.tr (hu43.tr (hu825.tr hu977))) (by decide)) _ (by show 0 ≤ a3.toInt ∧ a3.toInt ≤ 11; omega) _ _ (by omega) (fun w1004 h1006 hr1005 hO1006 hv1006 => ?_))
                            have hu1006 := hv1006
                            obtain ⟨x1007, rfl, t1008⟩ := hr1005
                            show uRun _ (uCall Mt _) _ 171 (_, [(.inl x1007)], _, _, _)
                            refine ur_push rfl ?_
                            refine ur_if2 rfl (fun c1009 => ?_) (fun c1009 => ?_)
                            · have t1010 := lt_to c1009
                              refine ur_ldA rfl rfl ?_
                              refine ur_ldI rfl rfl ?_
                              obtain ⟨fs1011, hc1012⟩ := hO1006.mod
                              obtain ⟨f1013, p1014⟩ := mf_61 hO1006 hc1012
                              refine ur_putM (W := [80, 81]) rfl hO1006 hc1012 (by decide) rfl (ms_61 (hO1006.msh hc1012)) (Or.inl rfl) (fun h1016 hO1016 hu1016 d1015 hc1017 => ?_)
                              refine ur_ldA rfl rfl ?_
                              refine ur_ldA rfl rfl ?_
                              refine ur_get rfl hc1017 (mf_35 hO1016 hc1017) ?_
                              refine ur_ldI rfl rfl ?_
                              refine ur_aldV rfl ((d1015 _ (by decide)).trans (hv1006.ka (n := 10) (hv977.ka (n := 10) hc963 hn965 rfl (by decide) (wid_f (by decide)) (by decide)) hn965 rfl (by decide) (wid_f (by decide)) (by decide))) hn965 (by omega) (fun x1018 hx1019 => ?_)
                              obtain rfl : x967 = x1018 := Option.some.inj (hx968.symm.trans hx1019)
                              obtain ⟨f1020, p1021⟩ := mf_62 hO1016 hc1017
                              refine ur_putM (W := [80, 81]) rfl hO1016 hc1017 (by decide) rfl (ms_62 (hO1016.msh hc1017)) (Or.inl rfl) (fun h1023 hO1023 hu1023 d1022 hc1024 => ?_)
                              refine ur_go rfl ?_
                              refine ur_incV (fun z => [some (.inr (.inr (some 69))), some (.inl a1), some (.inl a2), some (.inl a3), some (.inl z), some (.inl x44), some (.inl x794), some (.inl x801), some (.inl x813)]) rfl rfl (fun _ => rfl) (fun x1025 e1026 => ?_)
                              have z1027 := any_r x11
                              have t1028 := ti_add e1026 (by omega) (by omega)
                              refine ur_go rfl ?_
                              obtain ⟨f1029, p1030, t1031⟩ := mf_4 hO1023 hc1024
                              have t1032 := fI_of hc1024 p1030
                              obtain ⟨f1033, p1034, t1035⟩ := mf_38 hO1023 hc1024
                              have t1036 := fI_of hc1024 p1034
                              have z1037 := any_r x1025
                              exact ih18 x1025 _ _ _ _ _ hO1023 (hu19.tr (hu43.tr (hu825.tr (hu977.tr (hu1006.tr (hu1016.tr hu1023)))))) (by omega) (by omega)
                            · have t1038 := lt_no c1009
                              refine ur_go rfl ?_
                              refine ur_incV (fun z => [some (.inr (.inr (some 69))), some (.inl a1), some (.inl a2), some (.inl a3), some (.inl x11), some (.inl x44), some (.inl x794), some (.inl x801), some (.inl z)]) rfl rfl (fun _ => rfl) (fun x1039 e1040 => ?_)
                              have t1041 := ti_add e1040 (by omega) (by omega)
                              refine ur_go rfl ?_
                              obtain ⟨fs1042, hc1043⟩ := hO1006.mod
                              obtain ⟨f1044, p1045, t1046⟩ := mf_4 hO1006 hc1043
                              have t1047 := fI_of hc1043 p1045
                              obtain ⟨f1048, p1049, t1050⟩ := mf_38 hO1006 hc1043
                              have t1051 := fI_of hc1043 p1049
                              have z1052 := any_r x1039
                              exact ih816 x1039 _ hO1006 (hu825.tr (hu977.tr hu1006)) (by omega) (by omega)
                        · have t1053 := ne_no c961
                          refine ur_ldA rfl rfl ?_
                          refine ur_get rfl hc848 (mf_35 hO825 hc848) ?_
                          refine ur_ldI rfl rfl ?_
                          obtain ⟨xs1055, hc1054, hn1056, he1057⟩ := hO825.int (hO825.fix 93 (by decide) rfl)
                          refine ur_aldV rfl hc1054 hn1056 (by omega) (fun x1058 hx1059 => ?_)
                          refine ur_ldA rfl rfl ?_
                          obtain ⟨f1060, p1061⟩ := mf_62 hO825 hc848
                          refine ur_get rfl hc848 p1061 ?_
                          have z1062 := any_r x1058
                          have z1063 := any_r f1060
                          refine ur_if2 rfl (fun c1064 => ?_) (fun c1064 => ?_)
                          · have t1065 := lt_to c1064
                            refine ur_ldA rfl rfl ?_
                            refine ur_ldI rfl rfl ?_
                            refine ur_ldI rfl rfl ?_
                            refine ur_ldA rfl rfl ?_
                            refine ur_get rfl hc848 (mf_35 hO825 hc848) ?_
                            refine ur_ldI rfl rfl ?_
                            refine ur_aldV rfl hc1054 hn1056 (by omega) (fun x1066 hx1067 => ?_)
                            obtain rfl : x1058 = x1066 := Option.some.inj (hx1059.symm.trans hx1067)
                            refine ur_ldI rfl rfl ?_
                            obtain ⟨f1068, p1069, t1070⟩ := mf_4 hO825 hc848
                            have t1071 := fI_of hc848 p1069
                            have t1072 := fI_keep (k := 4) hO0 hO825 (hu19.tr (hu43.tr hu825)) rfl (by decide)
                            have t1073 := fI_keep (k := 38) hO0 hO825 (hu19.tr (hu43.tr hu825)) rfl (by decide)
                            refine ur_inl rfl (rcv_of hc848) (Nat.le_of_ble_eq_true rfl) (Nat.le_of_ble_eq_true rfl) (sf_X12_canSee hO825 (hX0.un hO0 hO825 (hu19.tr (hu43.tr hu825)) (by decide)) _ (by show 0 ≤ a2.toInt ∧ a2.toInt ≤ 11; omega) _ _ _ (by omega) (fun w1074 h1076 hr1075 hO1076 hv1076 => ?_))
                            have hu1076 : un [80, 81] h825 h1076 := hv1076.mono (by decide)
                            obtain ⟨b1077, rfl⟩ := hr1075
                            show uRun _ (uCall Mt _) _ 155 (_, [(.inl (bi b1077))], _, _, _)
                            refine ur_eqB rfl (fun c1078 => ?_) (fun c1078 => ?_)
                            · refine ur_incV (fun z => [some (.inr (.inr (some 69))), some (.inl a1), some (.inl a2), some (.inl a3), some (.inl x11), some (.inl x44), some (.inl x794), some (.inl x801), some (.inl z)]) rfl rfl (fun _ => rfl) (fun x1079 e1080 => ?_)
                              have t1081 := ti_add e1080 (by omega) (by omega)
                              refine ur_go rfl ?_
                              obtain ⟨fs1082, hc1083⟩ := hO1076.mod
                              obtain ⟨f1084, p1085, t1086⟩ := mf_4 hO1076 hc1083
                              have t1087 := fI_of hc1083 p1085
                              obtain ⟨f1088, p1089, t1090⟩ := mf_38 hO1076 hc1083
                              have t1091 := fI_of hc1083 p1089
                              have z1092 := any_r x1079
                              exact ih816 x1079 _ hO1076 (hu825.tr hu1076) (by omega) (by omega)
                            · refine ur_ldA rfl rfl ?_
                              refine ur_ldI rfl rfl ?_
                              refine ur_ldA rfl rfl ?_
                              obtain ⟨fs1093, hc1094⟩ := hO1076.mod
                              refine ur_get rfl hc1094 (mf_35 hO1076 hc1094) ?_
                              refine ur_ldI rfl rfl ?_
                              refine ur_aldV rfl (hv1076.ka (n := 10) hc1054 hn1056 rfl (by decide) (wid_f (by decide)) (by decide)) hn1056 (by omega) (fun x1095 hx1096 => ?_)
                              obtain rfl : x1058 = x1095 := Option.some.inj (hx1059.symm.trans hx1096)
                              refine ur_ldI rfl rfl ?_
                              obtain ⟨f1097, p1098, t1099⟩ := mf_4 hO1076 hc1094
                              have t1100 := fI_of hc1094 p1098
                              have t1101 := fI_keep (k := 4) hO0 hO1076 (hu19.tr (hu43.tr (hu825.tr hu1076))) rfl (by decide)
                              have t1102 := fI_keep (k := 38) hO0 hO1076 (hu19.tr (hu43.tr (hu825.tr hu1076))) rfl (by decide)
                              refine ur_inl rfl (rcv_of hc1094) (Nat.le_of_ble_eq_true rfl) (Nat.le_of_ble_eq_true rfl) (sf_X12_seenBy hO1076 (hX0.un hO0 hO1076 (hu19.tr (hu43.tr (hu825.tr hu1076))) (by decide)) _ (by show 0 ≤ a3.toInt ∧ a3.toInt ≤ 11; omega) _ _ (by omega) (fun w1103 h1105 hr1104 hO1105 hv1105 => ?_))
                              have hu1105 := hv1105
                              obtain ⟨x1106, rfl, t1107⟩ := hr1104
                              show uRun _ (uCall Mt _) _ 171 (_, [(.inl x1106)], _, _, _)
                              refine ur_push rfl ?_
                              refine ur_if2 rfl (fun c1108 => ?_) (fun c1108 => ?_)
                              · have t1109 := lt_to c1108
                                refine ur_ldA rfl rfl ?_
                                refine ur_ldI rfl rfl ?_
                                obtain ⟨fs1110, hc1111⟩ := hO1105.mod
                                obtain ⟨f1112, p1113⟩ := mf_61 hO1105 hc1111
                                refine ur_putM (W := [80, 81]) rfl hO1105 hc1111 (by decide) rfl (ms_61 (hO1105.msh hc1111)) (Or.inl rfl) (fun h1115 hO1115 hu1115 d1114 hc1116 => ?_)
                                refine ur_ldA rfl rfl ?_
                                refine ur_ldA rfl rfl ?_
                                refine ur_get rfl hc1116 (mf_35 hO1115 hc1116) ?_
                                refine ur_ldI rfl rfl ?_
                                refine ur_aldV rfl ((d1114 _ (by decide)).trans (hv1105.ka (n := 10) (hv1076.ka (n := 10) hc1054 hn1056 rfl (by decide) (wid_f (by decide)) (by decide)) hn1056 rfl (by decide) (wid_f (by decide)) (by decide))) hn1056 (by omega) (fun x1117 hx1118 => ?_)
                                obtain rfl : x1058 = x1117 := Option.some.inj (hx1059.symm.trans hx1118)
                                obtain ⟨f1119, p1120⟩ := mf_62 hO1115 hc1116
                                refine ur_putM (W := [80, 81]) rfl hO1115 hc1116 (by decide) rfl (ms_62 (hO1115.msh hc1116)) (Or.inl rfl) (fun h1122 hO1122 hu1122 d1121 hc1123 => ?_)
                                refine ur_go rfl ?_
                                refine ur_incV (fun z => [some (.inr (.inr (some 69))), some (.inl a1), some (.inl a2), some (.inl a3), some (.inl z), some (.inl x44), some (.inl x794), some (.inl x801), some (.inl x813)]) rfl rfl (fun _ => rfl) (fun x1124 e1125 => ?_)
                                have z1126 := any_r x11
                                have t1127 := ti_add e1125 (by omega) (by omega)
                                refine ur_go rfl ?_
                                obtain ⟨f1128, p1129, t1130⟩ := mf_4 hO1122 hc1123
                                have t1131 := fI_of hc1123 p1129
                                obtain ⟨f1132, p1133, t1134⟩ := mf_38 hO1122 hc1123
                                have t1135 := fI_of hc1123 p1133
                                have z1136 := any_r x1124
                                exact ih18 x1124 _ _ _ _ _ hO1122 (hu19.tr (hu43.tr (hu825.tr (hu1076.tr (hu1105.tr (hu1115.tr hu1122)))))) (by omega) (by omega)
                              · have t1137 := lt_no c1108
                                refine ur_go rfl ?_
                                refine ur_incV (fun z => [some (.inr (.inr (some 69))), some (.inl a1), some (.inl a2), some (.inl a3), some (.inl x11), some (.inl x44), some (.inl x794), some (.inl x801), some (.inl z)]) rfl rfl (fun _ => rfl) (fun x1138 e1139 => ?_)
                                have t1140 := ti_add e1139 (by omega) (by omega)
                                refine ur_go rfl ?_
                                obtain ⟨fs1141, hc1142⟩ := hO1105.mod
                                obtain ⟨f1143, p1144, t1145⟩ := mf_4 hO1105 hc1142
                                have t1146 := fI_of hc1142 p1144
                                obtain ⟨f1147, p1148, t1149⟩ := mf_38 hO1105 hc1142
                                have t1150 := fI_of hc1142 p1148
                                have z1151 := any_r x1138
                                exact ih816 x1138 _ hO1105 (hu825.tr (hu1076.tr hu1105)) (by omega) (by omega)
                          · have t1152 := lt_no c1064
                            refine ur_go rfl ?_
                            refine ur_incV (fun z => [some (.inr (.inr (some 69))), some (.inl a1), some (.inl a2), some (.inl a3), some (.inl z), some (.inl x44), some (.inl x794), some (.inl x801), some (.inl x813)]) rfl rfl (fun _ => rfl) (fun x1153 e1154 => ?_)
                            have z1155 := any_r x11
                            have t1156 := ti_add e1154 (by omega) (by omega)
                            refine ur_go rfl ?_
                            obtain ⟨f1157, p1158, t1159⟩ := mf_4 hO825 hc848
                            have t1160 := fI_of hc848 p1158
                            obtain ⟨f1161, p1162, t1163⟩ := mf_38 hO825 hc848
                            have t1164 := fI_of hc848 p1162
                            have z1165 := any_r x1153
                            exact ih18 x1153 _ _ _ _ _ hO825 (hu19.tr (hu43.tr hu825)) (by omega) (by omega)
              have z1166 := any_r x794
              exact L814 _ x794 _ hO43 un.rf (by omega) (Nat.lt_succ_self _)
            · have t1167 := le_no c809
              refine ur_ldI rfl rfl ?_
              refine ur_push rfl ?_
              refine ur_binV rfl (fun x1168 e1169 => ?_)
              have t1170 := ti_add e1169 (by omega) (by omega)
              refine ur_go rfl ?_
              refine ur_svIk [some (.inr (.inr (some 69))), some (.inl a1), some (.inl a2), some (.inl a3), some (.inl x11), some (.inl x44), some (.inl x794), some (.inl x1168), u15] rfl rfl ?_
              refine ur_ldI rfl rfl ?_
              refine ur_svIk [some (.inr (.inr (some 69))), some (.inl a1), some (.inl a2), some (.inl a3), some (.inl x11), some (.inl x44), some (.inl x794), some (.inl x1168), some (.inl x794)] rfl rfl ?_
              obtain ⟨f1175, p1176, t1177⟩ := mf_4 hO43 hc49
              have t1178 := fI_of hc49 p1176
              obtain ⟨f1179, p1180, t1181⟩ := mf_38 hO43 hc49
              have t1182 := fI_of hc49 p1180
              have L1172 : ∀ (m1173 : Nat) (x1171 : Int32) (h1183 : aH) , OK h1183 → un [80, 81] h43 h1183 → ((-120 ≤ x1171.toInt ∧ x1171.toInt ≤ 2147483647)) → ((2147483648 - x1171.toInt).toNat) < m1173 → uRun oX12_lookOut (uCall Mt (d + 6)) Q 92 ([some (.inr (.inr (some 69))), some (.inl a1), some (.inl a2), some (.inl a3), some (.inl x11), some (.inl x44), some (.inl x794), some (.inl x1168), some (.inl x1171)], [], h1183, kc, ks) := by
                intro m1173
                induction m1173 with
                | zero => intro x1171 h1183 hO1183 hu1183 iv1184 mm1185; omega
                | succ m1173 ih1174 =>
                  intro x1171 h1183 hO1183 hu1183 iv1184 mm1185
                  refine ur_ldI rfl rfl ?_
                  refine ur_ldI rfl rfl ?_
                  have z1186 := any_r x1171
                  have z1187 := any_r x1168
                  refine ur_if2 rfl (fun c1188 => ?_) (fun c1188 => ?_)
                  · have t1189 := lt_to c1188
                    refine ur_incV (fun z => [some (.inr (.inr (some 69))), some (.inl a1), some (.inl a2), some (.inl a3), some (.inl z), some (.inl x44), some (.inl x794), some (.inl x1168), some (.inl x1171)]) rfl rfl (fun _ => rfl) (fun x1190 e1191 => ?_)
                    have z1192 := any_r x11
                    have t1193 := ti_add e1191 (by omega) (by omega)
                    refine ur_go rfl ?_
                    obtain ⟨fs1194, hc1195⟩ := hO1183.mod
                    obtain ⟨f1196, p1197, t1198⟩ := mf_4 hO1183 hc1195
                    have t1199 := fI_of hc1195 p1197
                    obtain ⟨f1200, p1201, t1202⟩ := mf_38 hO1183 hc1195
                    have t1203 := fI_of hc1195 p1201
                    have z1204 := any_r x1190
                    exact ih18 x1190 _ _ _ _ _ hO1183 (hu19.tr (hu43.tr hu1183)) (by omega) (by omega)
                  · have t1205 := lt_no c1188
                    refine ur_ldA rfl rfl ?_
                    obtain ⟨fs1206, hc1207⟩ := hO1183.mod
                    obtain ⟨f1208, p1209⟩ := mf_61 hO1183 hc1207
                    refine ur_get rfl hc1207 p1209 ?_
                    refine ur_if1 rfl (fun c1210 => ?_) (fun c1210 => ?_)
                    · have t1211 := lt_to c1210
                      refine ur_ldA rfl rfl ?_
                      refine ur_ldI rfl rfl ?_
                      refine ur_ldI rfl rfl ?_
                      refine ur_ldA rfl rfl ?_
                      refine ur_get rfl hc1207 (mf_35 hO1183 hc1207) ?_
                      refine ur_ldI rfl rfl ?_
                      obtain ⟨xs1213, hc1212, hn1214, he1215⟩ := hO1183.int (hO1183.fix 93 (by decide) rfl)
                      refine ur_aldV rfl hc1212 hn1214 (by omega) (fun x1216 hx1217 => ?_)
                      refine ur_ldI rfl rfl ?_
                      obtain ⟨f1218, p1219, t1220⟩ := mf_4 hO1183 hc1207
                      have t1221 := fI_of hc1207 p1219
                      have t1222 := fI_keep (k := 4) hO0 hO1183 (hu19.tr (hu43.tr hu1183)) rfl (by decide)
                      have t1223 := fI_keep (k := 38) hO0 hO1183 (hu19.tr (hu43.tr hu1183)) rfl (by decide)
                      refine ur_inl rfl (rcv_of hc1207) (Nat.le_of_ble_eq_true rfl) (Nat.le_of_ble_eq_true rfl) (sf_X12_canSee hO1183 (hX0.un hO0 hO1183 (hu19.tr (hu43.tr hu1183)) (by decide)) _ (by show 0 ≤ a2.toInt ∧ a2.toInt ≤ 11; omega) _ _ _ (by omega) (fun w1224 h1226 hr1225 hO1226 hv1226 => ?_))
                      have hu1226 : un [80, 81] h1183 h1226 := hv1226.mono (by decide)
                      obtain ⟨b1227, rfl⟩ := hr1225
                      show uRun _ (uCall Mt _) _ 155 (_, [(.inl (bi b1227))], _, _, _)
                      refine ur_eqB rfl (fun c1228 => ?_) (fun c1228 => ?_)
                      · refine ur_incV (fun z => [some (.inr (.inr (some 69))), some (.inl a1), some (.inl a2), some (.inl a3), some (.inl x11), some (.inl x44), some (.inl x794), some (.inl x1168), some (.inl z)]) rfl rfl (fun _ => rfl) (fun x1229 e1230 => ?_)
                        have t1231 := ti_add e1230 (by omega) (by omega)
                        refine ur_go rfl ?_
                        obtain ⟨fs1232, hc1233⟩ := hO1226.mod
                        obtain ⟨f1234, p1235, t1236⟩ := mf_4 hO1226 hc1233
                        have t1237 := fI_of hc1233 p1235
                        obtain ⟨f1238, p1239, t1240⟩ := mf_38 hO1226 hc1233
                        have t1241 := fI_of hc1233 p1239
                        have z1242 := any_r x1229
                        exact ih1174 x1229 _ hO1226 (hu1183.tr hu1226) (by omega) (by omega)
                      · refine ur_ldA rfl rfl ?_
                        refine ur_ldI rfl rfl ?_
                        refine ur_ldA rfl rfl ?_
                        obtain ⟨fs1243, hc1244⟩ := hO1226.mod
                        refine ur_get rfl hc1244 (mf_35 hO1226 hc1244) ?_
                        refine ur_ldI rfl rfl ?_
                        refine ur_aldV rfl (hv1226.ka (n := 10) hc1212 hn1214 rfl (by decide) (wid_f (by decide)) (by decide)) hn1214 (by omega) (fun x1245 hx1246 => ?_)
                        obtain rfl : x1216 = x1245 := Option.some.inj (hx1217.symm.trans hx1246)
                        refine ur_ldI rfl rfl ?_
                        obtain ⟨f1247, p1248, t1249⟩ := mf_4 hO1226 hc1244
                        have t1250 := fI_of hc1244 p1248
                        have t1251 := fI_keep (k := 4) hO0 hO1226 (hu19.tr (hu43.tr (hu1183.tr hu1226))) rfl (by decide)
                        have t1252 := fI_keep (k := 38) hO0 hO1226 (hu19.tr (hu43.tr (hu1183.tr hu1226))) rfl (by decide)
                        refine ur_inl rfl (rcv_of hc1244) (Nat.le_of_ble_eq_true rfl) (Nat.le_of_ble_eq_true rfl) (sf_X12_seenBy hO1226 (hX0.un hO0 hO1226 (hu19.tr (hu43.tr (hu1183.tr hu1226))) (by decide)) _ (by show 0 ≤ a3.toInt ∧ a3.toInt ≤ 11; omega) _ _ (by omega) (fun w1253 h1255 hr1254 hO1255 hv1255 => ?_))
                        have hu1255 := hv1255
                        obtain ⟨x1256, rfl, t1257⟩ := hr1254
                        show uRun _ (uCall Mt _) _ 171 (_, [(.inl x1256)], _, _, _)
                        refine ur_push rfl ?_
                        refine ur_if2 rfl (fun c1258 => ?_) (fun c1258 => ?_)
                        · have t1259 := lt_to c1258
                          refine ur_ldA rfl rfl ?_
                          refine ur_ldI rfl rfl ?_
                          obtain ⟨fs1260, hc1261⟩ := hO1255.mod
                          obtain ⟨f1262, p1263⟩ := mf_61 hO1255 hc1261
                          refine ur_putM (W := [80, 81]) rfl hO1255 hc1261 (by decide) rfl (ms_61 (hO1255.msh hc1261)) (Or.inl rfl) (fun h1265 hO1265 hu1265 d1264 hc1266 => ?_)
                          refine ur_ldA rfl rfl ?_
                          refine ur_ldA rfl rfl ?_
                          refine ur_get rfl hc1266 (mf_35 hO1265 hc1266) ?_
                          refine ur_ldI rfl rfl ?_
                          refine ur_aldV rfl ((d1264 _ (by decide)).trans (hv1255.ka (n := 10) (hv1226.ka (n := 10) hc1212 hn1214 rfl (by decide) (wid_f (by decide)) (by decide)) hn1214 rfl (by decide) (wid_f (by decide)) (by decide))) hn1214 (by omega) (fun x1267 hx1268 => ?_)
                          obtain rfl : x1216 = x1267 := Option.some.inj (hx1217.symm.trans hx1268)
                          obtain ⟨f1269, p1270⟩ := mf_62 hO1265 hc1266
                          refine ur_putM (W := [80, 81]) rfl hO1265 hc1266 (by decide) rfl (ms_62 (hO1265.msh hc1266)) (Or.inl rfl) (fun h1272 hO1272 hu1272 d1271 hc1273 => ?_)
                          refine ur_go rfl ?_
                          refine ur_incV (fun z => [some (.inr (.inr (some 69))), some (.inl a1), some (.inl a2), some (.inl a3), some (.inl z), some (.inl x44), some (.inl x794), some (.inl x1168), some (.inl x1171)]) rfl rfl (fun _ => rfl) (fun x1274 e1275 => ?_)
                          have z1276 := any_r x11
                          have t1277 := ti_add e1275 (by omega) (by omega)
                          refine ur_go rfl ?_
                          obtain ⟨f1278, p1279, t1280⟩ := mf_4 hO1272 hc1273
                          have t1281 := fI_of hc1273 p1279
                          obtain ⟨f1282, p1283, t1284⟩ := mf_38 hO1272 hc1273
                          have t1285 := fI_of hc1273 p1283
                          have z1286 := any_r x1274
                          exact ih18 x1274 _ _ _ _ _ hO1272 (hu19.tr (hu43.tr (hu1183.tr (hu1226.tr (hu1255.tr (hu1265.tr hu1272)))))) (by omega) (by omega)
                        · have t1287 := lt_no c1258
                          refine ur_go rfl ?_
                          refine ur_incV (fun z => [some (.inr (.inr (some 69))), some (.inl a1), some (.inl a2), some (.inl a3), some (.inl x11), some (.inl x44), some (.inl x794), some (.inl x1168), some (.inl z)]) rfl rfl (fun _ => rfl) (fun x1288 e1289 => ?_)
                          have t1290 := ti_add e1289 (by omega) (by omega)
                          refine ur_go rfl ?_
                          obtain ⟨fs1291, hc1292⟩ := hO1255.mod
                          obtain ⟨f1293, p1294, t1295⟩ := mf_4 hO1255 hc1292
                          have t1296 := fI_of hc1292 p1294
                          obtain ⟨f1297, p1298, t1299⟩ := mf_38 hO1255 hc1292
                          have t1300 := fI_of hc1292 p1298
                          have z1301 := any_r x1288
                          exact ih1174 x1288 _ hO1255 (hu1183.tr (hu1226.tr hu1255)) (by omega) (by omega)
                    · have t1302 := lt_no c1210
                      refine ur_ldI rfl rfl ?_
                      refine ur_ldA rfl rfl ?_
                      refine ur_get rfl hc1207 p1209 ?_
                      have z1303 := any_r f1208
                      refine ur_if2 rfl (fun c1304 => ?_) (fun c1304 => ?_)
                      · have t1305 := lt_to c1304
                        refine ur_incV (fun z => [some (.inr (.inr (some 69))), some (.inl a1), some (.inl a2), some (.inl a3), some (.inl z), some (.inl x44), some (.inl x794), some (.inl x1168), some (.inl x1171)]) rfl rfl (fun _ => rfl) (fun x1306 e1307 => ?_)
                        have z1308 := any_r x11
                        have t1309 := ti_add e1307 (by omega) (by omega)
                        refine ur_go rfl ?_
                        obtain ⟨f1310, p1311, t1312⟩ := mf_4 hO1183 hc1207
                        have t1313 := fI_of hc1207 p1311
                        obtain ⟨f1314, p1315, t1316⟩ := mf_38 hO1183 hc1207
                        have t1317 := fI_of hc1207 p1315
                        have z1318 := any_r x1306
                        exact ih18 x1306 _ _ _ _ _ hO1183 (hu19.tr (hu43.tr hu1183)) (by omega) (by omega)
                      · have t1319 := lt_no c1304
                        refine ur_ldI rfl rfl ?_
                        refine ur_ldA rfl rfl ?_
                        refine ur_get rfl hc1207 p1209 ?_
                        refine ur_if2 rfl (fun c1320 => ?_) (fun c1320 => ?_)
                        · have t1321 := ne_to c1320
                          refine ur_ldA rfl rfl ?_
                          refine ur_ldI rfl rfl ?_
                          refine ur_ldI rfl rfl ?_
                          refine ur_ldA rfl rfl ?_
                          refine ur_get rfl hc1207 (mf_35 hO1183 hc1207) ?_
                          refine ur_ldI rfl rfl ?_
                          obtain ⟨xs1323, hc1322, hn1324, he1325⟩ := hO1183.int (hO1183.fix 93 (by decide) rfl)
                          refine ur_aldV rfl hc1322 hn1324 (by omega) (fun x1326 hx1327 => ?_)
                          refine ur_ldI rfl rfl ?_
                          obtain ⟨f1328, p1329, t1330⟩ := mf_4 hO1183 hc1207
                          have t1331 := fI_of hc1207 p1329
                          have t1332 := fI_keep (k := 4) hO0 hO1183 (hu19.tr (hu43.tr hu1183)) rfl (by decide)
                          have t1333 := fI_keep (k := 38) hO0 hO1183 (hu19.tr (hu43.tr hu1183)) rfl (by decide)
                          refine ur_inl rfl (rcv_of hc1207) (Nat.le_of_ble_eq_true rfl) (Nat.le_of_ble_eq_true rfl) (sf_X12_canSee hO1183 (hX0.un hO0 hO1183 (hu19.tr (hu43.tr hu1183)) (by decide)) _ (by show 0 ≤ a2.toInt ∧ a2.toInt ≤ 11; omega) _ _ _ (by omega) (fun w1334 h1336 hr1335 hO1336 hv1336 => ?_))
                          have hu1336 : un [80, 81] h1183 h1336 := hv1336.mono (by decide)
                          obtain ⟨b1337, rfl⟩ := hr1335
                          show uRun _ (uCall Mt _) _ 155 (_, [(.inl (bi b1337))], _, _, _)
                          refine ur_eqB rfl (fun c1338 => ?_) (fun c1338 => ?_)
                          · refine ur_incV (fun z => [some (.inr (.inr (some 69))), some (.inl a1), some (.inl a2), some (.inl a3), some (.inl x11), some (.inl x44), some (.inl x794), some (.inl x1168), some (.inl z)]) rfl rfl (fun _ => rfl) (fun x1339 e1340 => ?_)
                            have t1341 := ti_add e1340 (by omega) (by omega)
                            refine ur_go rfl ?_
                            obtain ⟨fs1342, hc1343⟩ := hO1336.mod
                            obtain ⟨f1344, p1345, t1346⟩ := mf_4 hO1336 hc1343
                            have t1347 := fI_of hc1343 p1345
                            obtain ⟨f1348, p1349, t1350⟩ := mf_38 hO1336 hc1343
                            have t1351 := fI_of hc1343 p1349
                            have z1352 := any_r x1339
                            exact ih1174 x1339 _ hO1336 (hu1183.tr hu1336) (by omega) (by omega)
                          · refine ur_ldA rfl rfl ?_
                            refine ur_ldI rfl rfl ?_
                            refine ur_ldA rfl rfl ?_
                            obtain ⟨fs1353, hc1354⟩ := hO1336.mod
                            refine ur_get rfl hc1354 (mf_35 hO1336 hc1354) ?_
                            refine ur_ldI rfl rfl ?_
                            refine ur_aldV rfl (hv1336.ka (n := 10) hc1322 hn1324 rfl (by decide) (wid_f (by decide)) (by decide)) hn1324 (by omega) (fun x1355 hx1356 => ?_)
                            obtain rfl : x1326 = x1355 := Option.some.inj (hx1327.symm.trans hx1356)
                            refine ur_ldI rfl rfl ?_
                            obtain ⟨f1357, p1358, t1359⟩ := mf_4 hO1336 hc1354
                            have t1360 := fI_of hc1354 p1358
                            have t1361 := fI_keep (k := 4) hO0 hO1336 (hu19.tr (hu43.tr (hu1183.tr hu1336))) rfl (by decide)
                            have t1362 := fI_keep (k := 38) hO0 hO1336 (hu19.tr (hu43.tr (hu1183.tr hu1336))) rfl (by decide)
                            refine ur_inl rfl (rcv_of hc1354) (Nat.le_of_ble_eq_true rfl) (Nat.le_of_ble_eq_true rfl) (sf_X12_seenBy hO1336 (hX0.un hO0 hO1336 (hu19.tr (hu43.tr (hu1183.tr hu1336))) (by decide)) _ (by show 0 ≤ a3.toInt ∧ a3.toInt ≤ 11; omega) _ _ (by omega) (fun w1363 h1365 hr1364 hO1365 hv1365 => ?_))
                            have hu1365 := hv1365
                            obtain ⟨x1366, rfl, t1367⟩ := hr1364
                            show uRun _ (uCall Mt _) _ 171 (_, [(.inl x1366)], _, _, _)
                            refine ur_push rfl ?_
                            refine ur_if2 rfl (fun c1368 => ?_) (fun c1368 => ?_)
                            · have t1369 := lt_to c1368
                              refine ur_ldA rfl rfl ?_
                              refine ur_ldI rfl rfl ?_
                              obtain ⟨fs1370, hc1371⟩ := hO1365.mod
                              obtain ⟨f1372, p1373⟩ := mf_61 hO1365 hc1371
                              refine ur_putM (W := [80, 81]) rfl hO1365 hc1371 (by decide) rfl (ms_61 (hO1365.msh hc1371)) (Or.inl rfl) (fun h1375 hO1375 hu1375 d1374 hc1376 => ?_)
                              refine ur_ldA rfl rfl ?_
                              refine ur_ldA rfl rfl ?_
                              refine ur_get rfl hc1376 (mf_35 hO1375 hc1376) ?_
                              refine ur_ldI rfl rfl ?_
                              refine ur_aldV rfl ((d1374 _ (by decide)).trans (hv1365.ka (n := 10) (hv1336.ka (n := 10) hc1322 hn1324 rfl (by decide) (wid_f (by decide)) (by decide)) hn1324 rfl (by decide) (wid_f (by decide)) (by decide))) hn1324 (by omega) (fun x1377 hx1378 => ?_)
                              obtain rfl : x1326 = x1377 := Option.some.inj (hx1327.symm.trans hx1378)
                              obtain ⟨f1379, p1380⟩ := mf_62 hO1375 hc1376
                              refine ur_putM (W := [80, 81]) rfl hO1375 hc1376 (by decide) rfl (ms_62 (hO1375.msh hc1376)) (Or.inl rfl) (fun h1382 hO1382 hu1382 d1381 hc1383 => ?_)
                              refine ur_go rfl ?_
                              refine ur_incV (fun z => [some (.inr (.inr (some 69))), some (.inl a1), some (.inl a2), some (.inl a3), some (.inl z), some (.inl x44), some (.inl x794), some (.inl x1168), some (.inl x1171)]) rfl rfl (fun _ => rfl) (fun x1384 e1385 => ?_)
                              have z1386 := any_r x11
                              have t1387 := ti_add e1385 (by omega) (by omega)
                              refine ur_go rfl ?_
                              obtain ⟨f1388, p1389, t1390⟩ := mf_4 hO1382 hc1383
                              have t1391 := fI_of hc1383 p1389
                              obtain ⟨f1392, p1393, t1394⟩ := mf_38 hO1382 hc1383
                              have t1395 := fI_of hc1383 p1393
                              have z1396 := any_r x1384
                              exact ih18 x1384 _ _ _ _ _ hO1382 (hu19.tr (hu43.tr (hu1183.tr (hu1336.tr (hu1365.tr (hu1375.tr hu1382)))))) (by omega) (by omega)
                            · have t1397 := lt_no c1368
                              refine ur_go rfl ?_
                              refine ur_incV (fun z => [some (.inr (.inr (some 69))), some (.inl a1), some (.inl a2), some (.inl a3), some (.inl x11), some (.inl x44), some (.inl x794), some (.inl x1168), some (.inl z)]) rfl rfl (fun _ => rfl) (fun x1398 e1399 => ?_)
                              have t1400 := ti_add e1399 (by omega) (by omega)
                              refine ur_go rfl ?_
                              obtain ⟨fs1401, hc1402⟩ := hO1365.mod
                              obtain ⟨f1403, p1404, t1405⟩ := mf_4 hO1365 hc1402
                              have t1406 := fI_of hc1402 p1404
                              obtain ⟨f1407, p1408, t1409⟩ := mf_38 hO1365 hc1402
                              have t1410 := fI_of hc1402 p1408
                              have z1411 := any_r x1398
                              exact ih1174 x1398 _ hO1365 (hu1183.tr (hu1336.tr hu1365)) (by omega) (by omega)
                        · have t1412 := ne_no c1320
                          refine ur_ldA rfl rfl ?_
                          refine ur_get rfl hc1207 (mf_35 hO1183 hc1207) ?_
                          refine ur_ldI rfl rfl ?_
                          obtain ⟨xs1414, hc1413, hn1415, he1416⟩ := hO1183.int (hO1183.fix 93 (by decide) rfl)
                          refine ur_aldV rfl hc1413 hn1415 (by omega) (fun x1417 hx1418 => ?_)
                          refine ur_ldA rfl rfl ?_
                          obtain ⟨f1419, p1420⟩ := mf_62 hO1183 hc1207
                          refine ur_get rfl hc1207 p1420 ?_
                          have z1421 := any_r x1417
                          have z1422 := any_r f1419
                          refine ur_if2 rfl (fun c1423 => ?_) (fun c1423 => ?_)
                          · have t1424 := lt_to c1423
                            refine ur_ldA rfl rfl ?_
                            refine ur_ldI rfl rfl ?_
                            refine ur_ldI rfl rfl ?_
                            refine ur_ldA rfl rfl ?_
                            refine ur_get rfl hc1207 (mf_35 hO1183 hc1207) ?_
                            refine ur_ldI rfl rfl ?_
                            refine ur_aldV rfl hc1413 hn1415 (by omega) (fun x1425 hx1426 => ?_)
                            obtain rfl : x1417 = x1425 := Option.some.inj (hx1418.symm.trans hx1426)
                            refine ur_ldI rfl rfl ?_
                            obtain ⟨f1427, p1428, t1429⟩ := mf_4 hO1183 hc1207
                            have t1430 := fI_of hc1207 p1428
                            have t1431 := fI_keep (k := 4) hO0 hO1183 (hu19.tr (hu43.tr hu1183)) rfl (by decide)
                            have t1432 := fI_keep (k := 38) hO0 hO1183 (hu19.tr (hu43.tr hu1183)) rfl (by decide)
                            refine ur_inl rfl (rcv_of hc1207) (Nat.le_of_ble_eq_true rfl) (Nat.le_of_ble_eq_true rfl) (sf_X12_canSee hO1183 (hX0.un hO0 hO1183 (hu19.tr (hu43.tr hu1183)) (by decide)) _ (by show 0 ≤ a2.toInt ∧ a2.toInt ≤ 11; omega) _ _ _ (by omega) (fun w1433 h1435 hr1434 hO1435 hv1435 => ?_))
                            have hu1435 : un [80, 81] h1183 h1435 := hv1435.mono (by decide)
                            obtain ⟨b1436, rfl⟩ := hr1434
                            show uRun _ (uCall Mt _) _ 155 (_, [(.inl (bi b1436))], _, _, _)
                            refine ur_eqB rfl (fun c1437 => ?_) (fun c1437 => ?_)
                            · refine ur_incV (fun z => [some (.inr (.inr (some 69))), some (.inl a1), some (.inl a2), some (.inl a3), some (.inl x11), some (.inl x44), some (.inl x794), some (.inl x1168), some (.inl z)]) rfl rfl (fun _ => rfl) (fun x1438 e1439 => ?_)
                              have t1440 := ti_add e1439 (by omega) (by omega)
                              refine ur_go rfl ?_
                              obtain ⟨fs1441, hc1442⟩ := hO1435.mod
                              obtain ⟨f1443, p1444, t1445⟩ := mf_4 hO1435 hc1442
                              have t1446 := fI_of hc1442 p1444
                              obtain ⟨f1447, p1448, t1449⟩ := mf_38 hO1435 hc1442
                              have t1450 := fI_of hc1442 p1448
                              have z1451 := any_r x1438
                              exact ih1174 x1438 _ hO1435 (hu1183.tr hu1435) (by omega) (by omega)
                            · refine ur_ldA rfl rfl ?_
                              refine ur_ldI rfl rfl ?_
                              refine ur_ldA rfl rfl ?_
                              obtain ⟨fs1452, hc1453⟩ := hO1435.mod
                              refine ur_get rfl hc1453 (mf_35 hO1435 hc1453) ?_
                              refine ur_ldI rfl rfl ?_
                              refine ur_aldV rfl (hv1435.ka (n := 10) hc1413 hn1415 rfl (by decide) (wid_f (by decide)) (by decide)) hn1415 (by omega) (fun x1454 hx1455 => ?_)
                              obtain rfl : x1417 = x1454 := Option.some.inj (hx1418.symm.trans hx1455)
                              refine ur_ldI rfl rfl ?_
                              obtain ⟨f1456, p1457, t1458⟩ := mf_4 hO1435 hc1453
                              have t1459 := fI_of hc1453 p1457
                              have t1460 := fI_keep (k := 4) hO0 hO1435 (hu19.tr (hu43.tr (hu1183.tr hu1435))) rfl (by decide)
                              have t1461 := fI_keep (k := 38) hO0 hO1435 (hu19.tr (hu43.tr (hu1183.tr hu1435))) rfl (by decide)
                              refine ur_inl rfl (rcv_of hc1453) (Nat.le_of_ble_eq_true rfl) (Nat.le_of_ble_eq_true rfl) (sf_X12_seenBy hO1435 (hX0.un hO0 hO1435 (hu19.tr (hu43.tr (hu1183.tr hu1435))) (by decide)) _ (by show 0 ≤ a3.toInt ∧ a3.toInt ≤ 11; omega) _ _ (by omega) (fun w1462 h1464 hr1463 hO1464 hv1464 => ?_))
                              have hu1464 := hv1464
                              obtain ⟨x1465, rfl, t1466⟩ := hr1463
                              show uRun _ (uCall Mt _) _ 171 (_, [(.inl x1465)], _, _, _)
                              refine ur_push rfl ?_
                              refine ur_if2 rfl (fun c1467 => ?_) (fun c1467 => ?_)
                              · have t1468 := lt_to c1467
                                refine ur_ldA rfl rfl ?_
                                refine ur_ldI rfl rfl ?_
                                obtain ⟨fs1469, hc1470⟩ := hO1464.mod
                                obtain ⟨f1471, p1472⟩ := mf_61 hO1464 hc1470
                                refine ur_putM (W := [80, 81]) rfl hO1464 hc1470 (by decide) rfl (ms_61 (hO1464.msh hc1470)) (Or.inl rfl) (fun h1474 hO1474 hu1474 d1473 hc1475 => ?_)
                                refine ur_ldA rfl rfl ?_
                                refine ur_ldA rfl rfl ?_
                                refine ur_get rfl hc1475 (mf_35 hO1474 hc1475) ?_
                                refine ur_ldI rfl rfl ?_
                                refine ur_aldV rfl ((d1473 _ (by decide)).trans (hv1464.ka (n := 10) (hv1435.ka (n := 10) hc1413 hn1415 rfl (by decide) (wid_f (by decide)) (by decide)) hn1415 rfl (by decide) (wid_f (by decide)) (by decide))) hn1415 (by omega) (fun x1476 hx1477 => ?_)
                                obtain rfl : x1417 = x1476 := Option.some.inj (hx1418.symm.trans hx1477)
                                obtain ⟨f1478, p1479⟩ := mf_62 hO1474 hc1475
                                refine ur_putM (W := [80, 81]) rfl hO1474 hc1475 (by decide) rfl (ms_62 (hO1474.msh hc1475)) (Or.inl rfl) (fun h1481 hO1481 hu1481 d1480 hc1482 => ?_)
                                refine ur_go rfl ?_
                                refine ur_incV (fun z => [some (.inr (.inr (some 69))), some (.inl a1), some (.inl a2), some (.inl a3), some (.inl z), some (.inl x44), some (.inl x794), some (.inl x1168), some (.inl x1171)]) rfl rfl (fun _ => rfl) (fun x1483 e1484 => ?_)
                                have z1485 := any_r x11
                                have t1486 := ti_add e1484 (by omega) (by omega)
                                refine ur_go rfl ?_
                                obtain ⟨f1487, p1488, t1489⟩ := mf_4 hO1481 hc1482
                                have t1490 := fI_of hc1482 p1488
                                obtain ⟨f1491, p1492, t1493⟩ := mf_38 hO1481 hc1482
                                have t1494 := fI_of hc1482 p1492
                                have z1495 := any_r x1483
                                exact ih18 x1483 _ _ _ _ _ hO1481 (hu19.tr (hu43.tr (hu1183.tr (hu1435.tr (hu1464.tr (hu1474.tr hu1481)))))) (by omega) (by omega)
                              · have t1496 := lt_no c1467
                                refine ur_go rfl ?_
                                refine ur_incV (fun z => [some (.inr (.inr (some 69))), some (.inl a1), some (.inl a2), some (.inl a3), some (.inl x11), some (.inl x44), some (.inl x794), some (.inl x1168), some (.inl z)]) rfl rfl (fun _ => rfl) (fun x1497 e1498 => ?_)
                                have t1499 := ti_add e1498 (by omega) (by omega)
                                refine ur_go rfl ?_
                                obtain ⟨fs1500, hc1501⟩ := hO1464.mod
                                obtain ⟨f1502, p1503, t1504⟩ := mf_4 hO1464 hc1501
                                have t1505 := fI_of hc1501 p1503
                                obtain ⟨f1506, p1507, t1508⟩ := mf_38 hO1464 hc1501
                                have t1509 := fI_of hc1501 p1507
                                have z1510 := any_r x1497
                                exact ih1174 x1497 _ hO1464 (hu1183.tr (hu1435.tr hu1464)) (by omega) (by omega)
                          · have t1511 := lt_no c1423
                            refine ur_go rfl ?_
                            refine ur_incV (fun z => [some (.inr (.inr (some 69))), some (.inl a1), some (.inl a2), some (.inl a3), some (.inl z), some (.inl x44), some (.inl x794), some (.inl x1168), some (.inl x1171)]) rfl rfl (fun _ => rfl) (fun x1512 e1513 => ?_)
                            have z1514 := any_r x11
                            have t1515 := ti_add e1513 (by omega) (by omega)
                            refine ur_go rfl ?_
                            obtain ⟨f1516, p1517, t1518⟩ := mf_4 hO1183 hc1207
                            have t1519 := fI_of hc1207 p1517
                            obtain ⟨f1520, p1521, t1522⟩ := mf_38 hO1183 hc1207
                            have t1523 := fI_of hc1207 p1521
                            have z1524 := any_r x1512
                            exact ih18 x1512 _ _ _ _ _ hO1183 (hu19.tr (hu43.tr hu1183)) (by omega) (by omega)
              have z1525 := any_r x794
              exact L1172 _ x794 _ hO43 un.rf (by omega) (Nat.lt_succ_self _)
        · have t1526 := le_no c46
          refine ur_go rfl ?_
          refine ur_incV (fun z => [some (.inr (.inr (some 69))), some (.inl a1), some (.inl a2), some (.inl a3), some (.inl z), some (.inl x44), u13, u14, u15]) rfl rfl (fun _ => rfl) (fun x1527 e1528 => ?_)
          have z1529 := any_r x11
          have t1530 := ti_add e1528 (by omega) (by omega)
          refine ur_go rfl ?_
          obtain ⟨fs1531, hc1532⟩ := hO43.mod
          obtain ⟨f1533, p1534, t1535⟩ := mf_4 hO43 hc1532
          have t1536 := fI_of hc1532 p1534
          obtain ⟨f1537, p1538, t1539⟩ := mf_38 hO43 hc1532
          have t1540 := fI_of hc1532 p1538
          have z1541 := any_r x1527
          exact ih18 x1527 _ _ _ _ _ hO43 (hu19.tr hu43) (by omega) (by omega)
  exact L16 _ (-60) (none) (none) (none) (none) _ hO0 un.rf (by omega) (Nat.lt_succ_self _)

set_option maxRecDepth 20000 in
set_option maxHeartbeats 4000000 in
theorem sf_X12_next {d kc ks : Nat} {h0 : aH} {Q : Option aV → aH → Prop} (hO0 : OK h0) (hX0 : SX h0) (a1 : Int32) (a2 : Int32) (a3 : Int32) (hQ : ∀ r h', (∃ x, r = some (.inl x)) → OK h' → un [80, 81] h0 h' → Q r h') : uCall Mt (d + 8) 282 [(.inr (.inr (some 69))), (.inl a1), (.inl a2), (.inl a3)] h0 kc ks Q := by
  have l_m2 : ((-2) : Int32).toInt = -2 := by decide
  have l_m1 : ((-1) : Int32).toInt = -1 := by decide
  have l_0 : ((0) : Int32).toInt = 0 := by decide
  have l_1 : ((1) : Int32).toInt = 1 := by decide
  refine uc_ink [some (.inr (.inr (some 69))), some (.inl a1), some (.inl a2), some (.inl a3), none] mt_282 (Nat.le_of_ble_eq_true rfl) rfl ?_
  obtain ⟨fs1, hc2⟩ := hO0.mod
  obtain ⟨f3, p4, t5⟩ := mf_4 hO0 hc2
  have t6 := fI_of hc2 p4
  obtain ⟨f7, p8, t9⟩ := mf_38 hO0 hc2
  have t10 := fI_of hc2 p8
  refine ur_ldA rfl rfl ?_
  refine ur_ldI rfl rfl ?_
  refine ur_inl rfl (rcv_of hc2) (Nat.le_of_ble_eq_true rfl) (Nat.le_of_ble_eq_true rfl) (sg_isComet hO0 _ (fun w11 hr12 => ?_))
  obtain ⟨b13, rfl, t14⟩ := hr12
  show uRun _ (uCall Mt _) _ 5 (_, [(.inl (bi b13))], _, _, _)
  refine ur_eqB rfl (fun c15 => ?_) (fun c15 => ?_)
  · refine ur_push rfl ?_
    exact ur_ret rfl rfl (hQ _ _ ⟨_, rfl⟩ hO0 un.rf)
  · have t16 := t14 c15
    refine ur_ldA rfl rfl ?_
    refine ur_ldI rfl rfl ?_
    refine ur_inl rfl (rcv_of hc2) (Nat.le_of_ble_eq_true rfl) (Nat.le_of_ble_eq_true rfl) (sg_isComet hO0 _ (fun w17 hr18 => ?_))
    obtain ⟨b19, rfl, t20⟩ := hr18
    show uRun _ (uCall Mt _) _ 13 (_, [(.inl (bi b19))], _, _, _)
    refine ur_eqB rfl (fun c21 => ?_) (fun c21 => ?_)
    · refine ur_push rfl ?_
      exact ur_ret rfl rfl (hQ _ _ ⟨_, rfl⟩ hO0 un.rf)
    · have t22 := t20 c21
      refine ur_ldI rfl rfl ?_
      refine ur_ldI rfl rfl ?_
      have z23 := any_r a1
      have z24 := any_r a2
      refine ur_if2 rfl (fun c25 => ?_) (fun c25 => ?_)
      · have t26 := eq_to c25
        refine ur_push rfl ?_
        exact ur_ret rfl rfl (hQ _ _ ⟨_, rfl⟩ hO0 un.rf)
      · have t27 := eq_no c25
        refine ur_ldI rfl rfl ?_
        refine ur_push rfl ?_
        refine ur_push rfl ?_
        refine ur_callv rfl rfl (Nat.le_of_ble_eq_true rfl) (Nat.le_of_ble_eq_true rfl) rfl (sp_in _ _ _ _ _) ?_
        refine ur_neB rfl (fun c30 => ?_) (fun c30 => ?_)
        · have t31 := wi_toL c30 l_0 l_1
          refine ur_ldA rfl rfl ?_
          refine ur_push rfl ?_
          obtain ⟨f32, p33⟩ := mf_61 hO0 hc2
          refine ur_putM (W := [80, 81]) rfl hO0 hc2 (by decide) rfl (ms_61 (hO0.msh hc2)) (Or.inl rfl) (fun h35 hO35 hu35 d34 hc36 => ?_)
          have t37 := fI_of hc36 (gs_ne p4 (by decide))
          have t38 := fI_of hc36 (gs_ne p8 (by decide))
          refine ur_ldA rfl rfl ?_
          refine ur_push rfl ?_
          obtain ⟨f39, p40⟩ := mf_62 hO35 hc36
          refine ur_putM (W := [80, 81]) rfl hO35 hc36 (by decide) rfl (ms_62 (hO35.msh hc36)) (Or.inl rfl) (fun h42 hO42 hu42 d41 hc43 => ?_)
          have t44 := fI_of hc43 (gs_ne (gs_ne p4 (by decide)) (by decide))
          have t45 := fI_of hc43 (gs_ne (gs_ne p8 (by decide)) (by decide))
          refine ur_push rfl ?_
          refine ur_svIk [some (.inr (.inr (some 69))), some (.inl a1), some (.inl a2), some (.inl a3), some (.inl 0)] rfl rfl ?_
          have L47 : ∀ (m48 : Nat) (x46 : Int32) (h50 : aH) , OK h50 → un [80, 81] h42 h50 → ((0 ≤ x46.toInt ∧ x46.toInt ≤ 2147483647)) → ((2147483648 - x46.toInt).toNat) < m48 → uRun oX12_next (uCall Mt (d + 7)) Q 47 ([some (.inr (.inr (some 69))), some (.inl a1), some (.inl a2), some (.inl a3), some (.inl x46)], [], h50, kc, ks) := by
            intro m48
            induction m48 with
            | zero => intro x46 h50 hO50 hu50 iv51 mm52; omega
            | succ m48 ih49 =>
              intro x46 h50 hO50 hu50 iv51 mm52
              refine ur_ldI rfl rfl ?_
              refine ur_ldA rfl rfl ?_
              obtain ⟨fs53, hc54⟩ := hO50.mod
              obtain ⟨f55, p56, t57⟩ := mf_34 hO50 hc54
              refine ur_get rfl hc54 p56 ?_
              have z58 := any_r x46
              have z59 := any_r f55
              refine ur_if2 rfl (fun c60 => ?_) (fun c60 => ?_)
              · have t61 := le_to c60
                refine ur_ldI rfl rfl ?_
                refine ur_if1 rfl (fun c62 => ?_) (fun c62 => ?_)
                · have t63 := ne_to c62
                  refine ur_ldA rfl rfl ?_
                  obtain ⟨f64, p65⟩ := mf_62 hO50 hc54
                  refine ur_get rfl hc54 p65 ?_
                  obtain ⟨f66, p67, t68⟩ := mf_4 hO50 hc54
                  have t69 := fI_of hc54 p67
                  obtain ⟨f70, p71, t72⟩ := mf_38 hO50 hc54
                  have t73 := fI_of hc54 p71
                  have t74 := fI_keep (k := 4) hO0 hO50 (hu35.tr (hu42.tr hu50)) rfl (by decide)
                  have t75 := fI_keep (k := 38) hO0 hO50 (hu35.tr (hu42.tr hu50)) rfl (by decide)
                  exact ur_ret rfl rfl (hQ _ _ ⟨_, rfl⟩ hO50 (hu35.tr (hu42.tr hu50)))
                · have t76 := ne_no c62
                  refine ur_ldA rfl rfl ?_
                  obtain ⟨f77, p78⟩ := mf_61 hO50 hc54
                  refine ur_get rfl hc54 p78 ?_
                  refine ur_go rfl ?_
                  obtain ⟨f79, p80, t81⟩ := mf_4 hO50 hc54
                  have t82 := fI_of hc54 p80
                  obtain ⟨f83, p84, t85⟩ := mf_38 hO50 hc54
                  have t86 := fI_of hc54 p84
                  have t87 := fI_keep (k := 4) hO0 hO50 (hu35.tr (hu42.tr hu50)) rfl (by decide)
                  have t88 := fI_keep (k := 38) hO0 hO50 (hu35.tr (hu42.tr hu50)) rfl (by decide)
                  exact ur_ret rfl rfl (hQ _ _ ⟨_, rfl⟩ hO50 (hu35.tr (hu42.tr hu50)))
              · have t89 := le_no c60
                refine ur_ldA rfl rfl ?_
                refine ur_ldI rfl rfl ?_
                refine ur_ldI rfl rfl ?_
                refine ur_ldI rfl rfl ?_
                obtain ⟨f90, p91, t92⟩ := mf_4 hO50 hc54
                have t93 := fI_of hc54 p91
                obtain ⟨f94, p95, t96⟩ := mf_38 hO50 hc54
                have t97 := fI_of hc54 p95
                have t98 := fI_keep (k := 4) hO0 hO50 (hu35.tr (hu42.tr hu50)) rfl (by decide)
                have t99 := fI_keep (k := 38) hO0 hO50 (hu35.tr (hu42.tr hu50)) rfl (by decide)
                refine ur_inl rfl (rcv_of hc54) (Nat.le_of_ble_eq_true rfl) (Nat.le_of_ble_eq_true rfl) (sf_X12_lookOut hO50 (hX0.un hO0 hO50 (hu35.tr (hu42.tr hu50)) (by decide)) _ (by show 0 ≤ x46.toInt ∧ x46.toInt ≤ 9; omega) _ (by show 0 ≤ a1.toInt ∧ a1.toInt ≤ 11; omega) _ (by show 0 ≤ a2.toInt ∧ a2.toInt ≤ 11; omega) (by omega) (by omega) (fun w100 h102 hr101 hO102 hv102 => ?_))
                have hu102 := hv102
                subst hr101
                show uRun _ (uCall Mt _) _ 64 (_, [], _, _, _)
                refine ur_incV (fun z => [some (.inr (.inr (some 69))), some (.inl a1), some (.inl a2), some (.inl a3), some (.inl z)]) rfl rfl (fun _ => rfl) (fun x103 e104 => ?_)
                have t105 := ti_add e104 (by omega) (by omega)
                refine ur_go rfl ?_
                obtain ⟨fs106, hc107⟩ := hO102.mod
                obtain ⟨f108, p109, t110⟩ := mf_4 hO102 hc107
                have t111 := fI_of hc107 p109
                obtain ⟨f112, p113, t114⟩ := mf_38 hO102 hc107
                have t115 := fI_of hc107 p113
                have z116 := any_r x103
                exact ih49 x103 _ hO102 (hu50.tr hu102) (by omega) (by omega)
          exact L47 _ 0 _ hO42 un.rf (by omega) (Nat.lt_succ_self _)
        · have t117 := wi_noL c30 l_0 l_1
          refine ur_push rfl ?_
          exact ur_ret rfl rfl (hQ _ _ ⟨_, rfl⟩ hO0 un.rf)
end CT8
