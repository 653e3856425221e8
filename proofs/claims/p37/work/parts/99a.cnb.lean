/-! COMETS AND WORDS counted, printed by program -/
section CNB
set_option maxRecDepth 20000 in
set_option maxHeartbeats 4000000 in
theorem sn_X6_addComet {d kc ks : Nat} {h0 : aH} {Q : Option aV → aH → Prop} (hO0 : OK h0) {a1 : Nat} (g1 : 114 ≤ a1) (t1 : tg h0 a1 = (102, 14)) (hQ : ∀ r h', (∃ x, r = some (.inl x)) → OK h' → un [4, 221, 1104, 21208, 21209] h0 h' → (nC h' ≤ nC h0 + 0) → Q r h') : uCall Mt (d + 5) 59 [(.inr (.inr (some 1))), (.inr (.inr (some a1)))] h0 kc ks Q := by
  have l_m3 : ((-3) : Int32).toInt = -3 := by decide
  have l_1 : ((1) : Int32).toInt = 1 := by decide
  have l_12 : ((12) : Int32).toInt = 12 := by decide
  refine uc_ink [some (.inr (.inr (some 1))), some (.inr (.inr (some a1)))] mt_59 (Nat.le_of_ble_eq_true rfl) rfl ?_
  refine ur_ldA rfl rfl ?_
  obtain ⟨f2, f3, hc1, k4⟩ := ok_1 hO0
  refine ur_get rfl hc1 rfl ?_
  refine ur_push rfl ?_
  refine ur_if2 rfl (fun c5 => ?_) (fun c5 => ?_)
  · have t6 := lt_to c5
    refine ur_ldA rfl rfl ?_
    refine ur_get rfl hc1 rfl ?_
    refine ur_ldA rfl rfl ?_
    refine ur_get rfl hc1 rfl ?_
    refine ur_ldA rfl rfl ?_
    obtain ⟨g27, f8, f9, f10, f11, f12, f13, f14, f15, f16, f17, q18, q19, o20, q21, hc7, k22, k23, k24, k25, k26⟩ := hO0.comet t1
    obtain ⟨xs29, hc28, hn30, he31⟩ := hO0.com (hO0.fix 4 (by decide) rfl)
    refine ur_astAV (W := [4]) (m := 12) rfl hO0 hc28 hc7 (Or.inl ⟨rfl, g27, t1⟩) hn30 (by omega) (Or.inr (Or.inr (wid_fix (by decide) (by decide)))) (fun h34 hO34 hv34 d32 hc33 => ?_)
    have hu34 : un [4, 221, 1104, 21208, 21209] h0 h34 := hv34.mono (by decide)
    refine ur_ldA rfl rfl ?_
    refine ur_dup rfl rfl ?_
    refine ur_get rfl ((d32 _ (by decide)).trans hc1) rfl ?_
    refine ur_push rfl ?_
    refine ur_binV rfl (fun x35 e36 => ?_)
    have z37 := any_r f3
    have t38 := ti_add e36 (by omega) (by omega)
    refine ur_putV (W := [1104]) (fs' := [(.inr (.inr (some 2))), (.inr (.inr (some 3))), (.inl f2), (.inr (.inr (some 4))), (.inl x35)]) rfl hO34 ((d32 _ (by decide)).trans hc1) (Nat.le_of_ble_eq_true rfl) rfl rfl ⟨rfl, _, _, rfl, by omega⟩ rfl (Or.inr (by show 1000 + 100 * wid 1 (106, 5) + 4 ∈ _; rw [(wid_f (by decide))]; decide)) (fun h40 hO40 hv40 d39 hc41 => ?_)
    have hu40 : un [4, 221, 1104, 21208, 21209] h34 h40 := hv40.mono (by decide)
    refine ur_ldA rfl rfl ?_
    refine ur_ldA rfl rfl ?_
    refine ur_inl rfl (rcv_of hc41) (Nat.le_of_ble_eq_true rfl) (Nat.le_of_ble_eq_true rfl) (sf_X6_reckonReturns hO40 _ (fun _ e => by cases e; exact ⟨g27, (hu40.tm (hu34.tm t1 (by decide)) (by decide))⟩) (fun w42 h44 hr43 hO44 hv44 => ?_))
    have hu44 : un [4, 221, 1104, 21208, 21209] h40 h44 := hv44.mono (by decide)
    subst hr43
    show uRun _ (uCall Mt _) _ 37 (_, [], _, _, _)
    refine ur_ldA rfl rfl ?_
    refine ur_get rfl (hv44.ko (n := 5) hc41 rfl (wid_f (by decide)) (by decide)) rfl ?_
    refine ur_push rfl ?_
    refine ur_binV rfl (fun x45 e46 => ?_)
    have z47 := any_r x35
    have t48 := ti_sub e46 (by omega) (by omega)
    have t49 := hv34.nC (by decide)
    have t50 := hv40.nC (by decide)
    have t51 := hv44.nC (by decide)
    exact ur_ret rfl rfl (hQ _ _ ⟨_, rfl⟩ hO44 (hu34.tr (hu40.tr hu44)) (by omega))
  · have t52 := lt_no c5
    refine ur_push rfl ?_
    exact ur_ret rfl rfl (hQ _ _ ⟨_, rfl⟩ hO0 un.rf (by omega))

set_option maxRecDepth 20000 in
set_option maxHeartbeats 4000000 in
theorem sn_X6_breakComet {d kc ks : Nat} {h0 : aH} {Q : Option aV → aH → Prop} (hO0 : OK h0) (a1 : Int32) (a2 : Int32) (hQ : ∀ r h', (∃ x, r = some (.inl x)) → OK h' → un [4, 221, 1104, 9002, 21207, 21208, 21209] h0 h' → (nC h' ≤ nC h0 + 2) → Q r h') : uCall Mt (d + 6) 64 [(.inr (.inr (some 1))), (.inl a1), (.inl a2)] h0 kc ks Q := by
  have l_m1 : ((-1) : Int32).toInt = -1 := by decide
  have l_0 : ((0) : Int32).toInt = 0 := by decide
  have l_1 : ((1) : Int32).toInt = 1 := by decide
  have l_30 : ((30) : Int32).toInt = 30 := by decide
  have l_360 : ((360) : Int32).toInt = 360 := by decide
  refine uc_ink [some (.inr (.inr (some 1))), some (.inl a1), some (.inl a2), none, none, none, none, none, none] mt_64 (Nat.le_of_ble_eq_true rfl) rfl ?_
  refine ur_ldA rfl rfl ?_
  refine ur_ldI rfl rfl ?_
  obtain ⟨f2, f3, hc1, k4⟩ := ok_1 hO0
  refine ur_inl rfl (rcv_of hc1) (Nat.le_of_ble_eq_true rfl) (Nat.le_of_ble_eq_true rfl) (sf_X6_cometAt hO0 _ (fun w5 hr6 => ?_))
  obtain ⟨o7, rfl, k8⟩ := hr6
  show uRun _ (uCall Mt _) _ 5 (_, [(.inr (.inr o7))], _, _, _)
  refine ur_svAk [some (.inr (.inr (some 1))), some (.inl a1), some (.inl a2), some (.inr (.inr o7)), none, none, none, none, none] rfl rfl ?_
  refine ur_ldA rfl rfl ?_
  cases o7 with
  | none =>
    refine ur_nulN rfl ?_
    refine ur_push rfl ?_
    exact ur_ret rfl rfl (hQ _ _ ⟨_, rfl⟩ hO0 un.rf (by omega))
  | some r9 =>
    refine ur_nulS rfl ?_
    have k10 := k8 _ rfl
    refine ur_ldA rfl rfl ?_
    refine ur_ldI rfl rfl ?_
    obtain ⟨g31, f12, f13, f14, f15, f16, f17, f18, f19, f20, f21, q22, q23, o24, q25, hc11, k26, k27, k28, k29, k30⟩ := hO0.comet k10.2
    refine ur_putV (W := [21207]) (fs' := [(.inl f12), (.inl f13), (.inl f14), (.inl f15), (.inl f16), (.inl f17), (.inl f18), (.inl a2), (.inl f20), (.inl f21), (.inr (.inr (some q22))), (.inr (.inr (some q23))), (.inr (.inr o24)), (.inr (.inr (some q25)))]) rfl hO0 hc11 (Nat.le_of_ble_eq_true rfl) rfl rfl ⟨g31, _, _, _, _, _, _, _, _, _, _, _, _, _, _, rfl, ⟨k26.1, k26.2⟩, ⟨k27.1, k27.2⟩, k28, ⟨k29.1, k29.2⟩, by omega⟩ rfl (Or.inr (by show 1000 + 100 * wid r9 (102, 14) + 7 ∈ _; rw [(wid_c g31)]; decide)) (fun h33 hO33 hv33 d32 hc34 => ?_)
    have hu33 : un [4, 221, 1104, 9002, 21207, 21208, 21209] h0 h33 := hv33.mono (by decide)
    refine ur_ldA rfl rfl ?_
    refine ur_get rfl hc34 rfl ?_
    refine ur_push rfl ?_
    refine ur_binV rfl (fun x35 e36 => ?_)
    have z37 := any_r f17
    refine ur_push rfl ?_
    refine ur_maxV rfl (by show ¬ 9 ≤ 2; decide) (fun x38 t39 e40 => ?_)
    refine ur_svIk [some (.inr (.inr (some 1))), some (.inl a1), some (.inl a2), some (.inr (.inr (some r9))), some (.inl x38), none, none, none, none] rfl rfl ?_
    refine ur_ldA rfl rfl ?_
    refine ur_ldI rfl rfl ?_
    refine ur_inl rfl (rcv_of hc34) (Nat.le_of_ble_eq_true rfl) (Nat.le_of_ble_eq_true rfl) (sf_X2_passOf hO33 g31 (hu33.tm k10.2 (by decide)) _ (fun w41 hr42 => ?_))
    obtain ⟨x43, rfl⟩ := hr42
    show uRun _ (uCall Mt _) _ 34 (_, [(.inl x43)], _, _, _)
    refine ur_svIk [some (.inr (.inr (some 1))), some (.inl a1), some (.inl a2), some (.inr (.inr (some r9))), some (.inl x38), some (.inl x43), none, none, none] rfl rfl ?_
    refine ur_ldA rfl rfl ?_
    refine ur_get rfl hc34 rfl ?_
    refine ur_push rfl ?_
    refine ur_binV rfl (fun x44 e45 => ?_)
    have z46 := any_r f14
    refine ur_push rfl ?_
    refine ur_divV rfl (by decide) (fun x47 e48 => ?_)
    have z49 := any_r x44
    have t50 : 0 ≤ x44.toInt → x47.toInt = x44.toInt % 360 := fun q => ti_rem e48 l_360 (by decide) q
    refine ur_svIk [some (.inr (.inr (some 1))), some (.inl a1), some (.inl a2), some (.inr (.inr (some r9))), some (.inl x38), some (.inl x43), some (.inl x47), none, none] rfl rfl ?_
    refine ur_ldA rfl rfl ?_
    refine ur_get rfl hc34 rfl ?_
    refine ur_push rfl ?_
    refine ur_binV rfl (fun x51 e52 => ?_)
    refine ur_push rfl ?_
    refine ur_binV rfl (fun x53 e54 => ?_)
    have z55 := any_r x51
    refine ur_push rfl ?_
    refine ur_divV rfl (by decide) (fun x56 e57 => ?_)
    have z58 := any_r x53
    have t59 : 0 ≤ x53.toInt → x56.toInt = x53.toInt % 360 := fun q => ti_rem e57 l_360 (by decide) q
    refine ur_svIk [some (.inr (.inr (some 1))), some (.inl a1), some (.inl a2), some (.inr (.inr (some r9))), some (.inl x38), some (.inl x43), some (.inl x47), some (.inl x56), none] rfl rfl ?_
    refine ur_ldA rfl rfl ?_
    refine ur_new rfl (Nat.le_of_ble_eq_true rfl) ?_
    refine ur_dup rfl rfl ?_
    refine ur_ldI rfl rfl ?_
    refine ur_ldA rfl rfl ?_
    refine ur_get rfl (hs_ap hc34) rfl ?_
    refine ur_push rfl ?_
    refine ur_binV rfl (fun x61 e62 => ?_)
    have z63 := any_r f13
    refine ur_ldI rfl rfl ?_
    refine ur_ldA rfl rfl ?_
    refine ur_get rfl (hs_ap hc34) rfl ?_
    refine ur_ldA rfl rfl ?_
    refine ur_get rfl (hs_ap hc34) rfl ?_
    refine ur_ldI rfl rfl ?_
    refine ur_ldI rfl rfl ?_
    refine ur_inl rfl (rcv_of ap_0) (Nat.le_of_ble_eq_true rfl) (Nat.le_of_ble_eq_true rfl) (sn_newComet hO33 _ _ _ _ _ _ _ (fun w64 h67 hr65 hO67 hv67 k66 hn68 => ?_))
    have hu67 : un [4, 221, 1104, 9002, 21207, 21208, 21209] h33 h67 := hv67.mono (by decide)
    subst hr65
    show uRun _ (uCall Mt _) _ 94 (_, [(.inr (.inr (some h33.length))), (.inr (.inr (some 1)))], _, _, _)
    refine ur_inl rfl (rcv_of (hv67.ko (n := 5) ((d32 _ (ne_tg (hO67.fix 1 (by decide) rfl) (hu67.tm (hu33.tm k10.2 (by decide)) (by decide)) (by decide))).trans hc1) rfl (wid_f (by decide)) (by decide))) (Nat.le_of_ble_eq_true rfl) (Nat.le_of_ble_eq_true rfl) (sn_X6_addComet hO67 k66.1 k66.2 (fun w69 h72 hr70 hO72 hv72 hp71 => ?_))
    have hu72 : un [4, 221, 1104, 9002, 21207, 21208, 21209] h67 h72 := hv72.mono (by decide)
    obtain ⟨x73, rfl⟩ := hr70
    show uRun _ (uCall Mt _) _ 97 (_, [(.inl x73)], _, _, _)
    refine ur_svIk [some (.inr (.inr (some 1))), some (.inl a1), some (.inl a2), some (.inr (.inr (some r9))), some (.inl x38), some (.inl x43), some (.inl x47), some (.inl x56), some (.inl x73)] rfl rfl ?_
    refine ur_ldA rfl rfl ?_
    refine ur_new rfl (Nat.le_of_ble_eq_true rfl) ?_
    refine ur_dup rfl rfl ?_
    refine ur_ldI rfl rfl ?_
    refine ur_ldA rfl rfl ?_
    obtain ⟨g95, f76, f77, f78, f79, f80, f81, f82, f83, f84, f85, q86, q87, o88, q89, hc75, k90, k91, k92, k93, k94⟩ := hO72.comet (hu72.tm (hu67.tm (hu33.tm k10.2 (by decide)) (by decide)) (by decide))
    refine ur_get rfl (hs_ap hc75) rfl ?_
    refine ur_push rfl ?_
    refine ur_binV rfl (fun x96 e97 => ?_)
    have z98 := any_r f77
    refine ur_ldI rfl rfl ?_
    refine ur_ldA rfl rfl ?_
    refine ur_get rfl (hs_ap hc75) rfl ?_
    refine ur_ldA rfl rfl ?_
    refine ur_get rfl (hs_ap hc75) rfl ?_
    refine ur_ldI rfl rfl ?_
    refine ur_ldI rfl rfl ?_
    refine ur_inl rfl (rcv_of ap_0) (Nat.le_of_ble_eq_true rfl) (Nat.le_of_ble_eq_true rfl) (sn_newComet hO72 _ _ _ _ _ _ _ (fun w99 h102 hr100 hO102 hv102 k101 hn103 => ?_))
    have hu102 : un [4, 221, 1104, 9002, 21207, 21208, 21209] h72 h102 := hv102.mono (by decide)
    subst hr100
    show uRun _ (uCall Mt _) _ 129 (_, [(.inr (.inr (some h72.length))), (.inr (.inr (some 1)))], _, _, _)
    obtain ⟨f105, f106, hc104, k107⟩ := ok_1 hO102
    refine ur_inl rfl (rcv_of hc104) (Nat.le_of_ble_eq_true rfl) (Nat.le_of_ble_eq_true rfl) (sn_X6_addComet hO102 k101.1 k101.2 (fun w108 h111 hr109 hO111 hv111 hp110 => ?_))
    have hu111 : un [4, 221, 1104, 9002, 21207, 21208, 21209] h102 h111 := hv111.mono (by decide)
    obtain ⟨x112, rfl⟩ := hr109
    show uRun _ (uCall Mt _) _ 132 (_, [(.inl x112)], _, _, _)
    refine ur_pop rfl rfl ?_
    refine ur_ldI rfl rfl ?_
    have t113 := hv33.nC (by decide)
    have t114 := hv72.nC (by decide)
    have t115 := hv111.nC (by decide)
    exact ur_ret rfl rfl (hQ _ _ ⟨_, rfl⟩ hO111 (hu33.tr (hu67.tr (hu72.tr (hu102.tr hu111)))) (by omega))

set_option maxRecDepth 20000 in
set_option maxHeartbeats 4000000 in
theorem sn_X11_comet {d kc ks : Nat} {h0 : aH} {Q : Option aV → aH → Prop} (hO0 : OK h0) (a1 : Int32) (a2 : Int32) (a3 : Int32) (a4 : Int32) (hQ : ∀ r h', (∃ x, r = some (.inl x)) → OK h' → un [4, 221, 1104, 9002, 21208, 21209] h0 h' → (nC h' ≤ nC h0 + 1) → Q r h') : uCall Mt (d + 6) 125 [(.inr (.inr (some 0))), (.inl a1), (.inl a2), (.inl a3), (.inl a4)] h0 kc ks Q := by
  have l_m3 : ((-3) : Int32).toInt = -3 := by decide
  have l_m1 : ((-1) : Int32).toInt = -1 := by decide
  have l_0 : ((0) : Int32).toInt = 0 := by decide
  have l_1 : ((1) : Int32).toInt = 1 := by decide
  have l_5 : ((5) : Int32).toInt = 5 := by decide
  have l_9 : ((9) : Int32).toInt = 9 := by decide
  have l_12 : ((12) : Int32).toInt = 12 := by decide
  have l_100 : ((100) : Int32).toInt = 100 := by decide
  have l_200 : ((200) : Int32).toInt = 200 := by decide
  have l_360 : ((360) : Int32).toInt = 360 := by decide
  have l_40000 : ((40000) : Int32).toInt = 40000 := by decide
  have l_100000 : ((100000) : Int32).toInt = 100000 := by decide
  have l_199999 : ((199999) : Int32).toInt = 199999 := by decide
  have l_999999 : ((999999) : Int32).toInt = 999999 := by decide
  refine uc_ink [some (.inr (.inr (some 0))), some (.inl a1), some (.inl a2), some (.inl a3), some (.inl a4), none, none, none] mt_125 (Nat.le_of_ble_eq_true rfl) rfl ?_
  refine ur_ldI rfl rfl ?_
  refine ur_push rfl ?_
  refine ur_push rfl ?_
  refine ur_callv rfl rfl (Nat.le_of_ble_eq_true rfl) (Nat.le_of_ble_eq_true rfl) rfl (sp_within _ _ _ _ _) ?_
  refine ur_eqB rfl (fun c3 => ?_) (fun c3 => ?_)
  · have t4 := wi_noL c3 l_0 l_999999
    refine ur_push rfl ?_
    exact ur_ret rfl rfl (hQ _ _ ⟨_, rfl⟩ hO0 un.rf (by omega))
  · have t5 := wi_toL c3 l_0 l_999999
    refine ur_ldI rfl rfl ?_
    refine ur_push rfl ?_
    refine ur_push rfl ?_
    refine ur_callv rfl rfl (Nat.le_of_ble_eq_true rfl) (Nat.le_of_ble_eq_true rfl) rfl (sp_within _ _ _ _ _) ?_
    refine ur_neB rfl (fun c8 => ?_) (fun c8 => ?_)
    · have t9 := wi_toL c8 l_200 l_40000
      refine ur_ldI rfl rfl ?_
      refine ur_push rfl ?_
      refine ur_push rfl ?_
      refine ur_callv rfl rfl (Nat.le_of_ble_eq_true rfl) (Nat.le_of_ble_eq_true rfl) rfl (sp_within _ _ _ _ _) ?_
      refine ur_eqB rfl (fun c12 => ?_) (fun c12 => ?_)
      · have t13 := wi_noL c12 l_0 l_199999
        refine ur_push rfl ?_
        exact ur_ret rfl rfl (hQ _ _ ⟨_, rfl⟩ hO0 un.rf (by omega))
      · have t14 := wi_toL c12 l_0 l_199999
        refine ur_ldI rfl rfl ?_
        refine ur_push rfl ?_
        refine ur_push rfl ?_
        refine ur_callv rfl rfl (Nat.le_of_ble_eq_true rfl) (Nat.le_of_ble_eq_true rfl) rfl (sp_within _ _ _ _ _) ?_
        refine ur_neB rfl (fun c17 => ?_) (fun c17 => ?_)
        · have t18 := wi_toL c17 l_0 l_9
          refine ur_ldI rfl rfl ?_
          refine ur_push rfl ?_
          refine ur_divV rfl (by decide) (fun x19 e20 => ?_)
          have z21 := any_r a3
          have t22 := ti_rem e20 l_100000 (by decide) (by omega)
          refine ur_push rfl ?_
          refine ur_divV rfl (by decide) (fun x23 e24 => ?_)
          have z25 := any_r x19
          have t26 := ti_div e24 l_100 (by decide) (by omega)
          refine ur_svIk [some (.inr (.inr (some 0))), some (.inl a1), some (.inl a2), some (.inl a3), some (.inl a4), some (.inl x23), none, none] rfl rfl ?_
          refine ur_ldI rfl rfl ?_
          refine ur_push rfl ?_
          refine ur_divV rfl (by decide) (fun x27 e28 => ?_)
          have t29 := ti_rem e28 l_100 (by decide) (by omega)
          refine ur_svIk [some (.inr (.inr (some 0))), some (.inl a1), some (.inl a2), some (.inl a3), some (.inl a4), some (.inl x23), some (.inl x27), none] rfl rfl ?_
          refine ur_ldI rfl rfl ?_
          refine ur_push rfl ?_
          refine ur_if2 rfl (fun c30 => ?_) (fun c30 => ?_)
          · have t31 := le_to c30
            refine ur_push rfl ?_
            exact ur_ret rfl rfl (hQ _ _ ⟨_, rfl⟩ hO0 un.rf (by omega))
          · have t32 := le_no c30
            refine ur_ldI rfl rfl ?_
            refine ur_push rfl ?_
            refine ur_if2 rfl (fun c33 => ?_) (fun c33 => ?_)
            · have t34 := le_to c33
              refine ur_ldA rfl rfl ?_
              obtain ⟨hc35, k36⟩ := ok_0 hO0
              refine ur_get rfl hc35 rfl ?_
              obtain ⟨f38, f39, hc37, k40⟩ := ok_1 hO0
              refine ur_get rfl hc37 rfl ?_
              refine ur_push rfl ?_
              refine ur_if2 rfl (fun c41 => ?_) (fun c41 => ?_)
              · have t42 := lt_to c41
                refine ur_ldI rfl rfl ?_
                refine ur_push rfl ?_
                refine ur_if2 rfl (fun c43 => ?_) (fun c43 => ?_)
                · have t44 := lt_to c43
                  refine ur_push rfl ?_
                  refine ur_svIk [some (.inr (.inr (some 0))), some (.inl a1), some (.inl a2), some (.inl a3), some (.inl a4), some (.inl x23), some (.inl x27), some (.inl 1)] rfl rfl ?_
                  refine ur_ldA rfl rfl ?_
                  refine ur_get rfl hc35 rfl ?_
                  refine ur_new rfl (Nat.le_of_ble_eq_true rfl) ?_
                  refine ur_dup rfl rfl ?_
                  refine ur_ldI rfl rfl ?_
                  refine ur_ldI rfl rfl ?_
                  refine ur_ldI rfl rfl ?_
                  refine ur_ldI rfl rfl ?_
                  refine ur_ldI rfl rfl ?_
                  refine ur_ldI rfl rfl ?_
                  refine ur_push rfl ?_
                  refine ur_inl rfl (rcv_of ap_0) (Nat.le_of_ble_eq_true rfl) (Nat.le_of_ble_eq_true rfl) (sn_newComet hO0 _ _ _ _ _ _ _ (fun w46 h49 hr47 hO49 hv49 k48 hn50 => ?_))
                  have hu49 : un [4, 221, 1104, 9002, 21208, 21209] h0 h49 := hv49.mono (by decide)
                  subst hr47
                  show uRun _ (uCall Mt _) _ 128 (_, [(.inr (.inr (some h0.length))), (.inr (.inr (some 1)))], _, _, _)
                  refine ur_inl rfl (rcv_of (hv49.ko (n := 5) hc37 rfl (wid_f (by decide)) (by decide))) (Nat.le_of_ble_eq_true rfl) (Nat.le_of_ble_eq_true rfl) (sn_X6_addComet hO49 k48.1 k48.2 (fun w51 h54 hr52 hO54 hv54 hp53 => ?_))
                  have hu54 : un [4, 221, 1104, 9002, 21208, 21209] h49 h54 := hv54.mono (by decide)
                  obtain ⟨x55, rfl⟩ := hr52
                  show uRun _ (uCall Mt _) _ 131 (_, [(.inl x55)], _, _, _)
                  have t56 := hv54.nC (by decide)
                  exact ur_ret rfl rfl (hQ _ _ ⟨_, rfl⟩ hO54 (hu49.tr hu54) (by omega))
                · have t57 := lt_no c43
                  refine ur_push rfl ?_
                  refine ur_go rfl ?_
                  refine ur_svIk [some (.inr (.inr (some 0))), some (.inl a1), some (.inl a2), some (.inl a3), some (.inl a4), some (.inl x23), some (.inl x27), some (.inl (-1))] rfl rfl ?_
                  refine ur_ldA rfl rfl ?_
                  refine ur_get rfl hc35 rfl ?_
                  refine ur_new rfl (Nat.le_of_ble_eq_true rfl) ?_
                  refine ur_dup rfl rfl ?_
                  refine ur_ldI rfl rfl ?_
                  refine ur_ldI rfl rfl ?_
                  refine ur_ldI rfl rfl ?_
                  refine ur_ldI rfl rfl ?_
                  refine ur_ldI rfl rfl ?_
                  refine ur_ldI rfl rfl ?_
                  refine ur_push rfl ?_
                  refine ur_inl rfl (rcv_of ap_0) (Nat.le_of_ble_eq_true rfl) (Nat.le_of_ble_eq_true rfl) (sn_newComet hO0 _ _ _ _ _ _ _ (fun w59 h62 hr60 hO62 hv62 k61 hn63 => ?_))
                  have hu62 : un [4, 221, 1104, 9002, 21208, 21209] h0 h62 := hv62.mono (by decide)
                  subst hr60
                  show uRun _ (uCall Mt _) _ 128 (_, [(.inr (.inr (some h0.length))), (.inr (.inr (some 1)))], _, _, _)
                  refine ur_inl rfl (rcv_of (hv62.ko (n := 5) hc37 rfl (wid_f (by decide)) (by decide))) (Nat.le_of_ble_eq_true rfl) (Nat.le_of_ble_eq_true rfl) (sn_X6_addComet hO62 k61.1 k61.2 (fun w64 h67 hr65 hO67 hv67 hp66 => ?_))
                  have hu67 : un [4, 221, 1104, 9002, 21208, 21209] h62 h67 := hv67.mono (by decide)
                  obtain ⟨x68, rfl⟩ := hr65
                  show uRun _ (uCall Mt _) _ 131 (_, [(.inl x68)], _, _, _)
                  have t69 := hv67.nC (by decide)
                  exact ur_ret rfl rfl (hQ _ _ ⟨_, rfl⟩ hO67 (hu62.tr hu67) (by omega))
              · have t70 := lt_no c41
                refine ur_push rfl ?_
                exact ur_ret rfl rfl (hQ _ _ ⟨_, rfl⟩ hO0 un.rf (by omega))
            · have t71 := le_no c33
              refine ur_push rfl ?_
              exact ur_ret rfl rfl (hQ _ _ ⟨_, rfl⟩ hO0 un.rf (by omega))
        · have t72 := wi_noL c17 l_0 l_9
          refine ur_push rfl ?_
          exact ur_ret rfl rfl (hQ _ _ ⟨_, rfl⟩ hO0 un.rf (by omega))
    · have t73 := wi_noL c8 l_200 l_40000
      refine ur_push rfl ?_
      exact ur_ret rfl rfl (hQ _ _ ⟨_, rfl⟩ hO0 un.rf (by omega))

set_option maxRecDepth 20000 in
set_option maxHeartbeats 4000000 in
theorem sn_X11_broke {d kc ks : Nat} {h0 : aH} {Q : Option aV → aH → Prop} (hO0 : OK h0) (a1 : Int32) (a2 : Int32) (hQ : ∀ r h', (∃ x, r = some (.inl x)) → OK h' → un [4, 221, 1104, 9002, 21207, 21208, 21209] h0 h' → (nC h' ≤ nC h0 + 2) → Q r h') : uCall Mt (d + 7) 154 [(.inr (.inr (some 0))), (.inl a1), (.inl a2)] h0 kc ks Q := by
  have l_m2000000000 : ((-2000000000) : Int32).toInt = -2000000000 := by decide
  have l_m60 : ((-60) : Int32).toInt = -60 := by decide
  have l_m5 : ((-5) : Int32).toInt = -5 := by decide
  have l_m3 : ((-3) : Int32).toInt = -3 := by decide
  have l_m2 : ((-2) : Int32).toInt = -2 := by decide
  have l_m1 : ((-1) : Int32).toInt = -1 := by decide
  have l_2 : ((2) : Int32).toInt = 2 := by decide
  have l_12 : ((12) : Int32).toInt = 12 := by decide
  have l_60 : ((60) : Int32).toInt = 60 := by decide
  refine uc_ink [some (.inr (.inr (some 0))), some (.inl a1), some (.inl a2), none] mt_154 (Nat.le_of_ble_eq_true rfl) rfl ?_
  refine ur_ldA rfl rfl ?_
  obtain ⟨hc1, k2⟩ := ok_0 hO0
  refine ur_get rfl hc1 rfl ?_
  refine ur_ldI rfl rfl ?_
  obtain ⟨f4, f5, hc3, k6⟩ := ok_1 hO0
  refine ur_inl rfl (rcv_of hc3) (Nat.le_of_ble_eq_true rfl) (Nat.le_of_ble_eq_true rfl) (sf_X6_cometAt hO0 _ (fun w7 hr8 => ?_))
  obtain ⟨o9, rfl, k10⟩ := hr8
  show uRun _ (uCall Mt _) _ 8 (_, [(.inr (.inr o9))], _, _, _)
  refine ur_svAk [some (.inr (.inr (some 0))), some (.inl a1), some (.inl a2), some (.inr (.inr o9))] rfl rfl ?_
  refine ur_ldA rfl rfl ?_
  cases o9 with
  | none =>
    refine ur_nulN rfl ?_
    refine ur_push rfl ?_
    exact ur_ret rfl rfl (hQ _ _ ⟨_, rfl⟩ hO0 un.rf (by omega))
  | some r11 =>
    refine ur_nulS rfl ?_
    have k12 := k10 _ rfl
    refine ur_ldI rfl rfl ?_
    refine ur_callv rfl rfl (Nat.le_of_ble_eq_true rfl) (Nat.le_of_ble_eq_true rfl) rfl (sp_isRet _ _) ?_
    refine ur_neB rfl (fun c15 => ?_) (fun c15 => ?_)
    · have t16 := wi_toL c15 l_m60 l_60
      refine ur_ldA rfl rfl ?_
      refine ur_ldI rfl rfl ?_
      obtain ⟨g37, f18, f19, f20, f21, f22, f23, f24, f25, f26, f27, q28, q29, o30, q31, hc17, k32, k33, k34, k35, k36⟩ := hO0.comet k12.2
      refine ur_inl rfl (rcv_of hc17) (Nat.le_of_ble_eq_true rfl) (Nat.le_of_ble_eq_true rfl) (sf_X2_hasReturn hO0 g37 k12.2 _ (fun w38 hr39 => ?_))
      obtain ⟨b40, rfl⟩ := hr39
      show uRun _ (uCall Mt _) _ 27 (_, [(.inl (bi b40))], _, _, _)
      refine ur_neB rfl (fun c41 => ?_) (fun c41 => ?_)
      · refine ur_ldA rfl rfl ?_
        refine ur_get rfl hc17 rfl ?_
        refine ur_push rfl ?_
        refine ur_if2 rfl (fun c42 => ?_) (fun c42 => ?_)
        · have t43 := eq_to c42
          refine ur_ldA rfl rfl ?_
          refine ur_get rfl hc1 rfl ?_
          refine ur_get rfl hc3 rfl ?_
          refine ur_push rfl ?_
          refine ur_binV rfl (fun x44 e45 => ?_)
          have z46 := any_r f5
          have t47 := ti_add e45 (by omega) (by omega)
          refine ur_push rfl ?_
          refine ur_if2 rfl (fun c48 => ?_) (fun c48 => ?_)
          · have t49 := le_to c48
            refine ur_ldA rfl rfl ?_
            refine ur_get rfl hc1 rfl ?_
            refine ur_ldI rfl rfl ?_
            refine ur_ldI rfl rfl ?_
            refine ur_inl rfl (rcv_of hc3) (Nat.le_of_ble_eq_true rfl) (Nat.le_of_ble_eq_true rfl) (sn_X6_breakComet hO0 _ _ (fun w50 h53 hr51 hO53 hv53 hp52 => ?_))
            have hu53 := hv53
            obtain ⟨x54, rfl⟩ := hr51
            show uRun _ (uCall Mt _) _ 71 (_, [(.inl x54)], _, _, _)
            exact ur_ret rfl rfl (hQ _ _ ⟨_, rfl⟩ hO53 hu53 (by omega))
          · have t55 := le_no c48
            refine ur_push rfl ?_
            exact ur_ret rfl rfl (hQ _ _ ⟨_, rfl⟩ hO0 un.rf (by omega))
        · have t56 := eq_no c42
          refine ur_push rfl ?_
          exact ur_ret rfl rfl (hQ _ _ ⟨_, rfl⟩ hO0 un.rf (by omega))
      · refine ur_push rfl ?_
        exact ur_ret rfl rfl (hQ _ _ ⟨_, rfl⟩ hO0 un.rf (by omega))
    · have t57 := wi_noL c15 l_m60 l_60
      refine ur_push rfl ?_
      exact ur_ret rfl rfl (hQ _ _ ⟨_, rfl⟩ hO0 un.rf (by omega))

set_option maxRecDepth 20000 in
set_option maxHeartbeats 4000000 in
theorem sn_X1_addWord {d kc ks : Nat} {h0 : aH} {Q : Option aV → aH → Prop} (hO0 : OK h0) {a1 : Nat} (g1 : 114 ≤ a1) (t1 : tg h0 a1 = (110, 13)) (a2 : Int32) (hQ : ∀ r h', (∃ x, r = some (.inl x)) → OK h' → un [16, 2501, 22008, 22009, 22010, 22011, 22012] h0 h' → (nW h' ≤ nW h0 + 0) → Q r h') : uCall Mt (d + 6) 11 [(.inr (.inr (some 15))), (.inr (.inr (some a1))), (.inl a2)] h0 kc ks Q := by
  have l_m3 : ((-3) : Int32).toInt = -3 := by decide
  have l_m1 : ((-1) : Int32).toInt = -1 := by decide
  have l_0 : ((0) : Int32).toInt = 0 := by decide
  have l_1 : ((1) : Int32).toInt = 1 := by decide
  have l_3 : ((3) : Int32).toInt = 3 := by decide
  have l_4 : ((4) : Int32).toInt = 4 := by decide
  have l_5 : ((5) : Int32).toInt = 5 := by decide
  have l_150 : ((150) : Int32).toInt = 150 := by decide
  refine uc_ink [some (.inr (.inr (some 15))), some (.inr (.inr (some a1))), some (.inl a2), none] mt_11 (Nat.le_of_ble_eq_true rfl) rfl ?_
  refine ur_ldA rfl rfl ?_
  obtain ⟨f2, f3, f4, f5, hc1, k6⟩ := ok_15 hO0
  refine ur_get rfl hc1 rfl ?_
  refine ur_push rfl ?_
  refine ur_if2 rfl (fun c7 => ?_) (fun c7 => ?_)
  · have t8 := lt_to c7
    refine ur_ldA rfl rfl ?_
    obtain ⟨g25, f10, f11, f12, f13, f14, f15, f16, f17, f18, o22, f19, f20, f21, hc9, k23, k24⟩ := hO0.word t1
    refine ur_get rfl hc9 rfl ?_
    refine ur_if1 rfl (fun c26 => ?_) (fun c26 => ?_)
    · have t27 := eq_to c26
      refine ur_ldA rfl rfl ?_
      refine ur_get rfl hc9 rfl ?_
      refine ur_push rfl ?_
      refine ur_if2 rfl (fun c28 => ?_) (fun c28 => ?_)
      · have t29 := ne_to c28
        refine ur_ldA rfl rfl ?_
        refine ur_get rfl hc1 rfl ?_
        refine ur_ldA rfl rfl ?_
        refine ur_get rfl hc1 rfl ?_
        refine ur_ldA rfl rfl ?_
        obtain ⟨xs31, hc30, hn32, he33⟩ := hO0.wor (hO0.fix 16 (by decide) rfl)
        refine ur_astAV (W := [16]) (m := 150) rfl hO0 hc30 hc9 (Or.inr ⟨rfl, g25, t1⟩) hn32 (by omega) (Or.inr (Or.inr (wid_fix (by decide) (by decide)))) (fun h36 hO36 hv36 d34 hc35 => ?_)
        have hu36 : un [16, 2501, 22008, 22009, 22010, 22011, 22012] h0 h36 := hv36.mono (by decide)
        refine ur_ldA rfl rfl ?_
        refine ur_dup rfl rfl ?_
        refine ur_get rfl ((d34 _ (by decide)).trans hc1) rfl ?_
        refine ur_push rfl ?_
        refine ur_binV rfl (fun x37 e38 => ?_)
        have z39 := any_r f2
        have t40 := ti_add e38 (by omega) (by omega)
        refine ur_putV (W := [2501]) (fs' := [(.inr (.inr (some 16))), (.inl x37), (.inl f3), (.inl f4), (.inl f5), (.inr (.inr (some 17))), (.inr (.inr (some 18))), (.inr (.inr (some 19))), (.inr (.inr (some 20))), (.inr (.inr (some 21))), (.inr (.inr (some 22)))]) rfl hO36 ((d34 _ (by decide)).trans hc1) (Nat.le_of_ble_eq_true rfl) rfl rfl ⟨rfl, _, _, _, _, rfl, by omega⟩ rfl (Or.inr (by show 1000 + 100 * wid 15 (101, 11) + 1 ∈ _; rw [(wid_f (by decide))]; decide)) (fun h42 hO42 hv42 d41 hc43 => ?_)
        have hu42 : un [16, 2501, 22008, 22009, 22010, 22011, 22012] h36 h42 := hv42.mono (by decide)
        refine ur_ldA rfl rfl ?_
        refine ur_ldA rfl rfl ?_
        refine ur_inl rfl (rcv_of hc43) (Nat.le_of_ble_eq_true rfl) (Nat.le_of_ble_eq_true rfl) (sf_X1_settleSpans hO42 g25 (hu42.tm (hu36.tm t1 (by decide)) (by decide)) (fun w44 h46 hr45 hO46 hv46 => ?_))
        have hu46 : un [16, 2501, 22008, 22009, 22010, 22011, 22012] h42 h46 := hv46.mono (by decide)
        subst hr45
        show uRun _ (uCall Mt _) _ 94 (_, [], _, _, _)
        refine ur_ldA rfl rfl ?_
        refine ur_get rfl (hv46.ko (n := 11) hc43 rfl (wid_f (by decide)) (by decide)) rfl ?_
        refine ur_push rfl ?_
        refine ur_binV rfl (fun x47 e48 => ?_)
        have z49 := any_r x37
        have t50 := ti_sub e48 (by omega) (by omega)
        have t51 := hv36.nW (by decide)
        have t52 := hv42.nW (by decide)
        have t53 := hv46.nW (by decide)
        exact ur_ret rfl rfl (hQ _ _ ⟨_, rfl⟩ hO46 (hu36.tr (hu42.tr hu46)) (by omega))
      · have t54 := ne_no c28
        exfalso
        omega
    · have t55 := eq_no c26
      refine ur_ldA rfl rfl ?_
      refine ur_get rfl hc9 rfl ?_
      refine ur_push rfl ?_
      refine ur_if2 rfl (fun c56 => ?_) (fun c56 => ?_)
      · have t57 := eq_to c56
        refine ur_ldA rfl rfl ?_
        refine ur_get rfl hc9 rfl ?_
        refine ur_push rfl ?_
        refine ur_if2 rfl (fun c58 => ?_) (fun c58 => ?_)
        · have t59 := ne_to c58
          refine ur_ldA rfl rfl ?_
          refine ur_get rfl hc1 rfl ?_
          refine ur_ldA rfl rfl ?_
          refine ur_get rfl hc1 rfl ?_
          refine ur_ldA rfl rfl ?_
          obtain ⟨xs61, hc60, hn62, he63⟩ := hO0.wor (hO0.fix 16 (by decide) rfl)
          refine ur_astAV (W := [16]) (m := 150) rfl hO0 hc60 hc9 (Or.inr ⟨rfl, g25, t1⟩) hn62 (by omega) (Or.inr (Or.inr (wid_fix (by decide) (by decide)))) (fun h66 hO66 hv66 d64 hc65 => ?_)
          have hu66 : un [16, 2501, 22008, 22009, 22010, 22011, 22012] h0 h66 := hv66.mono (by decide)
          refine ur_ldA rfl rfl ?_
          refine ur_dup rfl rfl ?_
          refine ur_get rfl ((d64 _ (by decide)).trans hc1) rfl ?_
          refine ur_push rfl ?_
          refine ur_binV rfl (fun x67 e68 => ?_)
          have z69 := any_r f2
          have t70 := ti_add e68 (by omega) (by omega)
          refine ur_putV (W := [2501]) (fs' := [(.inr (.inr (some 16))), (.inl x67), (.inl f3), (.inl f4), (.inl f5), (.inr (.inr (some 17))), (.inr (.inr (some 18))), (.inr (.inr (some 19))), (.inr (.inr (some 20))), (.inr (.inr (some 21))), (.inr (.inr (some 22)))]) rfl hO66 ((d64 _ (by decide)).trans hc1) (Nat.le_of_ble_eq_true rfl) rfl rfl ⟨rfl, _, _, _, _, rfl, by omega⟩ rfl (Or.inr (by show 1000 + 100 * wid 15 (101, 11) + 1 ∈ _; rw [(wid_f (by decide))]; decide)) (fun h72 hO72 hv72 d71 hc73 => ?_)
          have hu72 : un [16, 2501, 22008, 22009, 22010, 22011, 22012] h66 h72 := hv72.mono (by decide)
          refine ur_ldA rfl rfl ?_
          refine ur_ldA rfl rfl ?_
          refine ur_inl rfl (rcv_of hc73) (Nat.le_of_ble_eq_true rfl) (Nat.le_of_ble_eq_true rfl) (sf_X1_settleSpans hO72 g25 (hu72.tm (hu66.tm t1 (by decide)) (by decide)) (fun w74 h76 hr75 hO76 hv76 => ?_))
          have hu76 : un [16, 2501, 22008, 22009, 22010, 22011, 22012] h72 h76 := hv76.mono (by decide)
          subst hr75
          show uRun _ (uCall Mt _) _ 94 (_, [], _, _, _)
          refine ur_ldA rfl rfl ?_
          refine ur_get rfl (hv76.ko (n := 11) hc73 rfl (wid_f (by decide)) (by decide)) rfl ?_
          refine ur_push rfl ?_
          refine ur_binV rfl (fun x77 e78 => ?_)
          have z79 := any_r x67
          have t80 := ti_sub e78 (by omega) (by omega)
          have t81 := hv66.nW (by decide)
          have t82 := hv72.nW (by decide)
          have t83 := hv76.nW (by decide)
          exact ur_ret rfl rfl (hQ _ _ ⟨_, rfl⟩ hO76 (hu66.tr (hu72.tr hu76)) (by omega))
        · have t84 := ne_no c58
          exfalso
          omega
      · have t85 := eq_no c56
        refine ur_ldA rfl rfl ?_
        refine ur_get rfl hc9 rfl ?_
        refine ur_push rfl ?_
        refine ur_if2 rfl (fun c86 => ?_) (fun c86 => ?_)
        · have t87 := eq_to c86
          refine ur_ldA rfl rfl ?_
          refine ur_get rfl hc9 rfl ?_
          refine ur_push rfl ?_
          refine ur_if2 rfl (fun c88 => ?_) (fun c88 => ?_)
          · have t89 := ne_to c88
            refine ur_ldA rfl rfl ?_
            refine ur_get rfl hc1 rfl ?_
            refine ur_ldA rfl rfl ?_
            refine ur_get rfl hc1 rfl ?_
            refine ur_ldA rfl rfl ?_
            obtain ⟨xs91, hc90, hn92, he93⟩ := hO0.wor (hO0.fix 16 (by decide) rfl)
            refine ur_astAV (W := [16]) (m := 150) rfl hO0 hc90 hc9 (Or.inr ⟨rfl, g25, t1⟩) hn92 (by omega) (Or.inr (Or.inr (wid_fix (by decide) (by decide)))) (fun h96 hO96 hv96 d94 hc95 => ?_)
            have hu96 : un [16, 2501, 22008, 22009, 22010, 22011, 22012] h0 h96 := hv96.mono (by decide)
            refine ur_ldA rfl rfl ?_
            refine ur_dup rfl rfl ?_
            refine ur_get rfl ((d94 _ (by decide)).trans hc1) rfl ?_
            refine ur_push rfl ?_
            refine ur_binV rfl (fun x97 e98 => ?_)
            have z99 := any_r f2
            have t100 := ti_add e98 (by omega) (by omega)
            refine ur_putV (W := [2501]) (fs' := [(.inr (.inr (some 16))), (.inl x97), (.inl f3), (.inl f4), (.inl f5), (.inr (.inr (some 17))), (.inr (.inr (some 18))), (.inr (.inr (some 19))), (.inr (.inr (some 20))), (.inr (.inr (some 21))), (.inr (.inr (some 22)))]) rfl hO96 ((d94 _ (by decide)).trans hc1) (Nat.le_of_ble_eq_true rfl) rfl rfl ⟨rfl, _, _, _, _, rfl, by omega⟩ rfl (Or.inr (by show 1000 + 100 * wid 15 (101, 11) + 1 ∈ _; rw [(wid_f (by decide))]; decide)) (fun h102 hO102 hv102 d101 hc103 => ?_)
            have hu102 : un [16, 2501, 22008, 22009, 22010, 22011, 22012] h96 h102 := hv102.mono (by decide)
            refine ur_ldA rfl rfl ?_
            refine ur_ldA rfl rfl ?_
            refine ur_inl rfl (rcv_of hc103) (Nat.le_of_ble_eq_true rfl) (Nat.le_of_ble_eq_true rfl) (sf_X1_settleSpans hO102 g25 (hu102.tm (hu96.tm t1 (by decide)) (by decide)) (fun w104 h106 hr105 hO106 hv106 => ?_))
            have hu106 : un [16, 2501, 22008, 22009, 22010, 22011, 22012] h102 h106 := hv106.mono (by decide)
            subst hr105
            show uRun _ (uCall Mt _) _ 94 (_, [], _, _, _)
            refine ur_ldA rfl rfl ?_
            refine ur_get rfl (hv106.ko (n := 11) hc103 rfl (wid_f (by decide)) (by decide)) rfl ?_
            refine ur_push rfl ?_
            refine ur_binV rfl (fun x107 e108 => ?_)
            have z109 := any_r x97
            have t110 := ti_sub e108 (by omega) (by omega)
            have t111 := hv96.nW (by decide)
            have t112 := hv102.nW (by decide)
            have t113 := hv106.nW (by decide)
            exact ur_ret rfl rfl (hQ _ _ ⟨_, rfl⟩ hO106 (hu96.tr (hu102.tr hu106)) (by omega))
          · have t114 := ne_no c88
            exfalso
            omega
        · have t115 := eq_no c86
          refine ur_ldA rfl rfl ?_
          refine ur_ldI rfl rfl ?_
          refine ur_putV (W := [22008]) (fs' := [(.inl f10), (.inl f11), (.inl f12), (.inl f13), (.inl f14), (.inl f15), (.inl f16), (.inl f17), (.inl a2), (.inr (.inr o22)), (.inl f19), (.inl f20), (.inl f21)]) rfl hO0 hc9 (Nat.le_of_ble_eq_true rfl) rfl rfl ⟨g25, _, _, _, _, _, _, _, _, _, _, _, _, _, rfl, k23, by omega⟩ rfl (Or.inr (by show 1000 + 100 * wid a1 (110, 13) + 8 ∈ _; rw [(wid_w g25)]; decide)) (fun h117 hO117 hv117 d116 hc118 => ?_)
          have hu117 : un [16, 2501, 22008, 22009, 22010, 22011, 22012] h0 h117 := hv117.mono (by decide)
          refine ur_ldA rfl rfl ?_
          refine ur_get rfl hc118 rfl ?_
          refine ur_push rfl ?_
          refine ur_if2 rfl (fun c119 => ?_) (fun c119 => ?_)
          · have t120 := ne_to c119
            refine ur_ldA rfl rfl ?_
            refine ur_get rfl ((d116 _ (ne_tg (hO117.fix 15 (by decide) rfl) (hu117.tm t1 (by decide)) (by decide))).trans hc1) rfl ?_
            refine ur_ldA rfl rfl ?_
            refine ur_get rfl ((d116 _ (ne_tg (hO117.fix 15 (by decide) rfl) (hu117.tm t1 (by decide)) (by decide))).trans hc1) rfl ?_
            refine ur_ldA rfl rfl ?_
            obtain ⟨xs122, hc121, hn123, he124⟩ := hO117.wor (hO117.fix 16 (by decide) rfl)
            refine ur_astAV (W := [16]) (m := 150) rfl hO117 hc121 hc118 (Or.inr ⟨rfl, g25, (hu117.tm t1 (by decide))⟩) hn123 (by omega) (Or.inr (Or.inr (wid_fix (by decide) (by decide)))) (fun h127 hO127 hv127 d125 hc126 => ?_)
            have hu127 : un [16, 2501, 22008, 22009, 22010, 22011, 22012] h117 h127 := hv127.mono (by decide)
            refine ur_ldA rfl rfl ?_
            refine ur_dup rfl rfl ?_
            refine ur_get rfl ((d125 _ (by decide)).trans ((d116 _ (ne_tg (hO117.fix 15 (by decide) rfl) (hu117.tm t1 (by decide)) (by decide))).trans hc1)) rfl ?_
            refine ur_push rfl ?_
            refine ur_binV rfl (fun x128 e129 => ?_)
            have z130 := any_r f2
            have t131 := ti_add e129 (by omega) (by omega)
            refine ur_putV (W := [2501]) (fs' := [(.inr (.inr (some 16))), (.inl x128), (.inl f3), (.inl f4), (.inl f5), (.inr (.inr (some 17))), (.inr (.inr (some 18))), (.inr (.inr (some 19))), (.inr (.inr (some 20))), (.inr (.inr (some 21))), (.inr (.inr (some 22)))]) rfl hO127 ((d125 _ (by decide)).trans ((d116 _ (ne_tg (hO117.fix 15 (by decide) rfl) (hu117.tm t1 (by decide)) (by decide))).trans hc1)) (Nat.le_of_ble_eq_true rfl) rfl rfl ⟨rfl, _, _, _, _, rfl, by omega⟩ rfl (Or.inr (by show 1000 + 100 * wid 15 (101, 11) + 1 ∈ _; rw [(wid_f (by decide))]; decide)) (fun h133 hO133 hv133 d132 hc134 => ?_)
            have hu133 : un [16, 2501, 22008, 22009, 22010, 22011, 22012] h127 h133 := hv133.mono (by decide)
            refine ur_ldA rfl rfl ?_
            refine ur_ldA rfl rfl ?_
            refine ur_inl rfl (rcv_of hc134) (Nat.le_of_ble_eq_true rfl) (Nat.le_of_ble_eq_true rfl) (sf_X1_settleSpans hO133 g25 (hu133.tm (hu127.tm (hu117.tm t1 (by decide)) (by decide)) (by decide)) (fun w135 h137 hr136 hO137 hv137 => ?_))
            have hu137 : un [16, 2501, 22008, 22009, 22010, 22011, 22012] h133 h137 := hv137.mono (by decide)
            subst hr136
            show uRun _ (uCall Mt _) _ 94 (_, [], _, _, _)
            refine ur_ldA rfl rfl ?_
            refine ur_get rfl (hv137.ko (n := 11) hc134 rfl (wid_f (by decide)) (by decide)) rfl ?_
            refine ur_push rfl ?_
            refine ur_binV rfl (fun x138 e139 => ?_)
            have z140 := any_r x128
            have t141 := ti_sub e139 (by omega) (by omega)
            have t142 := hv117.nW (by decide)
            have t143 := hv127.nW (by decide)
            have t144 := hv133.nW (by decide)
            have t145 := hv137.nW (by decide)
            exact ur_ret rfl rfl (hQ _ _ ⟨_, rfl⟩ hO137 (hu117.tr (hu127.tr (hu133.tr hu137))) (by omega))
          · have t146 := ne_no c119
            refine ur_ldA rfl rfl ?_
            refine ur_ldI rfl rfl ?_
            refine ur_inl rfl (rcv_of ((d116 _ (ne_tg (hO117.fix 15 (by decide) rfl) (hu117.tm t1 (by decide)) (by decide))).trans hc1)) (Nat.le_of_ble_eq_true rfl) (Nat.le_of_ble_eq_true rfl) (sf_X1_wordAt hO117 _ (fun w147 hr148 => ?_))
            obtain ⟨o149, rfl, k150⟩ := hr148
            show uRun _ (uCall Mt _) _ 54 (_, [(.inr (.inr o149))], _, _, _)
            refine ur_svAk [some (.inr (.inr (some 15))), some (.inr (.inr (some a1))), some (.inl a2), some (.inr (.inr o149))] rfl rfl ?_
            refine ur_ldA rfl rfl ?_
            cases o149 with
            | none =>
              refine ur_nulN rfl ?_
              refine ur_push rfl ?_
              have t152 := hv117.nW (by decide)
              exact ur_ret rfl rfl (hQ _ _ ⟨_, rfl⟩ hO117 hu117 (by omega))
            | some r151 =>
              refine ur_nulS rfl ?_
              have k153 := k150 _ rfl
              refine ur_ldA rfl rfl ?_
              refine ur_ldA rfl rfl ?_
              obtain ⟨g170, f155, f156, f157, f158, f159, f160, f161, f162, f163, o167, f164, f165, f166, hc154, k168, k169⟩ := hO117.word k153.2
              refine ur_inl rfl (rcv_of hc154) (Nat.le_of_ble_eq_true rfl) (Nat.le_of_ble_eq_true rfl) (sf_X10_rootWord hO117 g170 k153.2 (fun w171 hr172 => ?_))
              obtain ⟨r173, rfl, k174⟩ := hr172
              show uRun _ (uCall Mt _) _ 66 (_, [(.inr (.inr (some r173))), (.inr (.inr (some a1)))], _, _, _)
              refine ur_inl rfl (rcv_of hc118) (Nat.le_of_ble_eq_true rfl) (Nat.le_of_ble_eq_true rfl) (sf_X10_copyFrom hO117 g25 (hu117.tm t1 (by decide)) k174.1 k174.2 (fun w175 h177 hr176 hO177 hv177 => ?_))
              have hu177 : un [16, 2501, 22008, 22009, 22010, 22011, 22012] h117 h177 := hv177.mono (by decide)
              subst hr176
              show uRun _ (uCall Mt _) _ 69 (_, [], _, _, _)
              refine ur_ldA rfl rfl ?_
              refine ur_get rfl (hv177.ko (n := 11) ((d116 _ (ne_tg (hO117.fix 15 (by decide) rfl) (hu117.tm t1 (by decide)) (by decide))).trans hc1) rfl (wid_f (by decide)) (by decide)) rfl ?_
              refine ur_ldA rfl rfl ?_
              refine ur_get rfl (hv177.ko (n := 11) ((d116 _ (ne_tg (hO117.fix 15 (by decide) rfl) (hu117.tm t1 (by decide)) (by decide))).trans hc1) rfl (wid_f (by decide)) (by decide)) rfl ?_
              refine ur_ldA rfl rfl ?_
              obtain ⟨g194, f179, f180, f181, f182, f183, f184, f185, f186, f187, o191, f188, f189, f190, hc178, k192, k193⟩ := hO177.word (hu177.tm (hu117.tm t1 (by decide)) (by decide))
              obtain ⟨xs196, hc195, hn197, he198⟩ := hO177.wor (hO177.fix 16 (by decide) rfl)
              refine ur_astAV (W := [16]) (m := 150) rfl hO177 hc195 hc178 (Or.inr ⟨rfl, g194, (hu177.tm (hu117.tm t1 (by decide)) (by decide))⟩) hn197 (by omega) (Or.inr (Or.inr (wid_fix (by decide) (by decide)))) (fun h201 hO201 hv201 d199 hc200 => ?_)
              have hu201 : un [16, 2501, 22008, 22009, 22010, 22011, 22012] h177 h201 := hv201.mono (by decide)
              refine ur_ldA rfl rfl ?_
              refine ur_dup rfl rfl ?_
              refine ur_get rfl ((d199 _ (by decide)).trans (hv177.ko (n := 11) ((d116 _ (ne_tg (hO117.fix 15 (by decide) rfl) (hu117.tm t1 (by decide)) (by decide))).trans hc1) rfl (wid_f (by decide)) (by decide))) rfl ?_
              refine ur_push rfl ?_
              refine ur_binV rfl (fun x202 e203 => ?_)
              have z204 := any_r f2
              have t205 := ti_add e203 (by omega) (by omega)
              refine ur_putV (W := [2501]) (fs' := [(.inr (.inr (some 16))), (.inl x202), (.inl f3), (.inl f4), (.inl f5), (.inr (.inr (some 17))), (.inr (.inr (some 18))), (.inr (.inr (some 19))), (.inr (.inr (some 20))), (.inr (.inr (some 21))), (.inr (.inr (some 22)))]) rfl hO201 ((d199 _ (by decide)).trans (hv177.ko (n := 11) ((d116 _ (ne_tg (hO117.fix 15 (by decide) rfl) (hu117.tm t1 (by decide)) (by decide))).trans hc1) rfl (wid_f (by decide)) (by decide))) (Nat.le_of_ble_eq_true rfl) rfl rfl ⟨rfl, _, _, _, _, rfl, by omega⟩ rfl (Or.inr (by show 1000 + 100 * wid 15 (101, 11) + 1 ∈ _; rw [(wid_f (by decide))]; decide)) (fun h207 hO207 hv207 d206 hc208 => ?_)
              have hu207 : un [16, 2501, 22008, 22009, 22010, 22011, 22012] h201 h207 := hv207.mono (by decide)
              refine ur_ldA rfl rfl ?_
              refine ur_ldA rfl rfl ?_
              refine ur_inl rfl (rcv_of hc208) (Nat.le_of_ble_eq_true rfl) (Nat.le_of_ble_eq_true rfl) (sf_X1_settleSpans hO207 g194 (hu207.tm (hu201.tm (hu177.tm (hu117.tm t1 (by decide)) (by decide)) (by decide)) (by decide)) (fun w209 h211 hr210 hO211 hv211 => ?_))
              have hu211 : un [16, 2501, 22008, 22009, 22010, 22011, 22012] h207 h211 := hv211.mono (by decide)
              subst hr210
              show uRun _ (uCall Mt _) _ 94 (_, [], _, _, _)
              refine ur_ldA rfl rfl ?_
              refine ur_get rfl (hv211.ko (n := 11) hc208 rfl (wid_f (by decide)) (by decide)) rfl ?_
              refine ur_push rfl ?_
              refine ur_binV rfl (fun x212 e213 => ?_)
              have z214 := any_r x202
              have t215 := ti_sub e213 (by omega) (by omega)
              have t216 := hv117.nW (by decide)
              have t217 := hv177.nW (by decide)
              have t218 := hv201.nW (by decide)
              have t219 := hv207.nW (by decide)
              have t220 := hv211.nW (by decide)
              exact ur_ret rfl rfl (hQ _ _ ⟨_, rfl⟩ hO211 (hu117.tr (hu177.tr (hu201.tr (hu207.tr hu211)))) (by omega))
  · have t221 := lt_no c7
    refine ur_push rfl ?_
    exact ur_ret rfl rfl (hQ _ _ ⟨_, rfl⟩ hO0 un.rf (by omega))

set_option maxRecDepth 20000 in
set_option maxHeartbeats 4000000 in
theorem sn_X11_word {d kc ks : Nat} {h0 : aH} {Q : Option aV → aH → Prop} (hO0 : OK h0) (a1 : Int32) (a2 : Int32) (a3 : Int32) (hQ : ∀ r h', (∃ x, r = some (.inl x)) → OK h' → un [16, 45, 46, 2501, 9010, 22005, 22006, 22007, 22008, 22009, 22010, 22011, 22012] h0 h' → (nW h' ≤ nW h0 + 1) → Q r h') : uCall Mt (d + 7) 134 [(.inr (.inr (some 0))), (.inl a1), (.inl a2), (.inl a3)] h0 kc ks Q := by
  have l_m3 : ((-3) : Int32).toInt = -3 := by decide
  have l_m1 : ((-1) : Int32).toInt = -1 := by decide
  have l_0 : ((0) : Int32).toInt = 0 := by decide
  have l_8 : ((8) : Int32).toInt = 8 := by decide
  have l_99 : ((99) : Int32).toInt = 99 := by decide
  have l_100 : ((100) : Int32).toInt = 100 := by decide
  have l_150 : ((150) : Int32).toInt = 150 := by decide
  have l_400 : ((400) : Int32).toInt = 400 := by decide
  have l_10000 : ((10000) : Int32).toInt = 10000 := by decide
  refine uc_ink [some (.inr (.inr (some 0))), some (.inl a1), some (.inl a2), some (.inl a3), none, none, none, none] mt_134 (Nat.le_of_ble_eq_true rfl) rfl ?_
  refine ur_ldI rfl rfl ?_
  refine ur_push rfl ?_
  refine ur_divV rfl (by decide) (fun x1 e2 => ?_)
  have z3 := any_r a1
  have t4 : 0 ≤ a1.toInt → x1.toInt = a1.toInt / 10000 := fun q => ti_div e2 l_10000 (by decide) q
  refine ur_svIk [some (.inr (.inr (some 0))), some (.inl a1), some (.inl a2), some (.inl a3), some (.inl x1), none, none, none] rfl rfl ?_
  refine ur_ldI rfl rfl ?_
  refine ur_push rfl ?_
  refine ur_divV rfl (by decide) (fun x5 e6 => ?_)
  have t7 : 0 ≤ a1.toInt → x5.toInt = a1.toInt / 100 := fun q => ti_div e6 l_100 (by decide) q
  refine ur_push rfl ?_
  refine ur_divV rfl (by decide) (fun x8 e9 => ?_)
  have z10 := any_r x5
  have t11 : 0 ≤ x5.toInt → x8.toInt = x5.toInt % 100 := fun q => ti_rem e9 l_100 (by decide) q
  refine ur_svIk [some (.inr (.inr (some 0))), some (.inl a1), some (.inl a2), some (.inl a3), some (.inl x1), some (.inl x8), none, none] rfl rfl ?_
  refine ur_ldI rfl rfl ?_
  refine ur_push rfl ?_
  refine ur_divV rfl (by decide) (fun x12 e13 => ?_)
  have t14 : 0 ≤ a1.toInt → x12.toInt = a1.toInt % 100 := fun q => ti_rem e13 l_100 (by decide) q
  refine ur_svIk [some (.inr (.inr (some 0))), some (.inl a1), some (.inl a2), some (.inl a3), some (.inl x1), some (.inl x8), some (.inl x12), none] rfl rfl ?_
  refine ur_ldI rfl rfl ?_
  refine ur_if1 rfl (fun c15 => ?_) (fun c15 => ?_)
  · have t16 := lt_to c15
    refine ur_push rfl ?_
    exact ur_ret rfl rfl (hQ _ _ ⟨_, rfl⟩ hO0 un.rf (by omega))
  · have t17 := lt_no c15
    refine ur_ldI rfl rfl ?_
    refine ur_callv rfl rfl (Nat.le_of_ble_eq_true rfl) (Nat.le_of_ble_eq_true rfl) rfl (sp_isPpl _ _) ?_
    refine ur_eqB rfl (fun c20 => ?_) (fun c20 => ?_)
    · have t21 := wi_noL c20 l_0 l_8
      refine ur_push rfl ?_
      exact ur_ret rfl rfl (hQ _ _ ⟨_, rfl⟩ hO0 un.rf (by omega))
    · have t22 := wi_toL c20 l_0 l_8
      refine ur_ldI rfl rfl ?_
      refine ur_push rfl ?_
      refine ur_if2 rfl (fun c23 => ?_) (fun c23 => ?_)
      · have t24 := le_to c23
        refine ur_push rfl ?_
        exact ur_ret rfl rfl (hQ _ _ ⟨_, rfl⟩ hO0 un.rf (by omega))
      · have t25 := le_no c23
        refine ur_ldI rfl rfl ?_
        refine ur_push rfl ?_
        refine ur_push rfl ?_
        refine ur_callv rfl rfl (Nat.le_of_ble_eq_true rfl) (Nat.le_of_ble_eq_true rfl) rfl (sp_within _ _ _ _ _) ?_
        refine ur_neB rfl (fun c28 => ?_) (fun c28 => ?_)
        · have t29 := wi_toL c28 l_0 l_400
          refine ur_ldI rfl rfl ?_
          refine ur_push rfl ?_
          refine ur_if2 rfl (fun c30 => ?_) (fun c30 => ?_)
          · have t31 := eq_to c30
            refine ur_ldA rfl rfl ?_
            obtain ⟨hc32, k33⟩ := ok_0 hO0
            refine ur_get rfl hc32 rfl ?_
            refine ur_ldI rfl rfl ?_
            refine ur_ldI rfl rfl ?_
            obtain ⟨f35, f36, f37, f38, hc34, k39⟩ := ok_15 hO0
            refine ur_inl rfl (rcv_of hc34) (Nat.le_of_ble_eq_true rfl) (Nat.le_of_ble_eq_true rfl) (sf_X1_canBear hO0 _ _ (fun w40 hr41 => ?_))
            obtain ⟨b42, rfl⟩ := hr41
            show uRun _ (uCall Mt _) _ 85 (_, [(.inl (bi b42))], _, _, _)
            refine ur_neB rfl (fun c43 => ?_) (fun c43 => ?_)
            · refine ur_ldA rfl rfl ?_
              refine ur_get rfl hc32 rfl ?_
              refine ur_get rfl hc34 rfl ?_
              refine ur_push rfl ?_
              refine ur_if2 rfl (fun c44 => ?_) (fun c44 => ?_)
              · have t45 := lt_to c44
                refine ur_new rfl (Nat.le_of_ble_eq_true rfl) ?_
                refine ur_dup rfl rfl ?_
                refine ur_ldA rfl rfl ?_
                refine ur_get rfl (hs_ap hc32) rfl ?_
                refine ur_get rfl (hs_ap hc34) rfl ?_
                refine ur_ldI rfl rfl ?_
                refine ur_ldI rfl rfl ?_
                refine ur_ldI rfl rfl ?_
                refine ur_push rfl ?_
                refine ur_if2 rfl (fun c47 => ?_) (fun c47 => ?_)
                · have t48 := ne_to c47
                  exfalso
                  omega
                · have t49 := ne_no c47
                  refine ur_push rfl ?_
                  refine ur_go rfl ?_
                  refine ur_ldI rfl rfl ?_
                  refine ur_inl rfl (rcv_of ap_0) (Nat.le_of_ble_eq_true rfl) (Nat.le_of_ble_eq_true rfl) (sn_newWord hO0 _ _ _ _ _ (by show (0 ≤ f35.toInt ∧ f35.toInt ≤ 149) ∧ (0 ≤ x8.toInt ∧ x8.toInt ≤ 7) ∧ (0 ≤ x1.toInt ∧ x1.toInt ≤ 8) ∧ -1 ≤ ((-1) : Int32).toInt ∧ ((-1) : Int32).toInt ≤ 19; omega) (fun w50 h53 hr51 hO53 hv53 k52 hn54 => ?_))
                  have hu53 : un [16, 45, 46, 2501, 9010, 22005, 22006, 22007, 22008, 22009, 22010, 22011, 22012] h0 h53 := hv53.mono (by decide)
                  subst hr51
                  show uRun _ (uCall Mt _) _ 138 (_, [(.inr (.inr (some h0.length)))], _, _, _)
                  refine ur_svAk [some (.inr (.inr (some 0))), some (.inl a1), some (.inl a2), some (.inl a3), some (.inl x1), some (.inl x8), some (.inl x12), some (.inr (.inr (some h0.length)))] rfl rfl ?_
                  refine ur_ldA rfl rfl ?_
                  refine ur_ldA rfl rfl ?_
                  refine ur_get rfl (hv53.ko (n := 8) hc32 rfl (wid_f (by decide)) (by decide)) rfl ?_
                  refine ur_get rfl (hv53.ko (n := 11) hc34 rfl (wid_f (by decide)) (by decide)) rfl ?_
                  refine ur_ldA rfl rfl ?_
                  refine ur_get rfl (hv53.ko (n := 8) hc32 rfl (wid_f (by decide)) (by decide)) rfl ?_
                  refine ur_get rfl (hv53.ko (n := 11) hc34 rfl (wid_f (by decide)) (by decide)) rfl ?_
                  refine ur_ldA rfl rfl ?_
                  refine ur_get rfl (hv53.ko (n := 8) hc32 rfl (wid_f (by decide)) (by decide)) rfl ?_
                  refine ur_get rfl (hv53.ko (n := 11) hc34 rfl (wid_f (by decide)) (by decide)) rfl ?_
                  obtain ⟨g71, f56, f57, f58, f59, f60, f61, f62, f63, f64, o68, f65, f66, f67, hc55, k69, k70⟩ := hO53.word k52.2
                  refine ur_inl rfl (rcv_of hc55) (Nat.le_of_ble_eq_true rfl) (Nat.le_of_ble_eq_true rfl) (sf_X10_dateIt hO53 g71 k52.2 _ _ _ (fun w72 h74 hr73 hO74 hv74 => ?_))
                  have hu74 : un [16, 45, 46, 2501, 9010, 22005, 22006, 22007, 22008, 22009, 22010, 22011, 22012] h53 h74 := hv74.mono (by decide)
                  subst hr73
                  show uRun _ (uCall Mt _) _ 166 (_, [], _, _, _)
                  refine ur_ldA rfl rfl ?_
                  refine ur_get rfl (hv74.ko (n := 8) (hv53.ko (n := 8) hc32 rfl (wid_f (by decide)) (by decide)) rfl (wid_f (by decide)) (by decide)) rfl ?_
                  obtain ⟨f76, f77, hc75, k78⟩ := ok_41 hO74
                  refine ur_inl rfl (rcv_of hc75) (Nat.le_of_ble_eq_true rfl) (Nat.le_of_ble_eq_true rfl) (sf_X7_forgetWeights hO74  (fun w79 h81 hr80 hO81 hv81 => ?_))
                  have hu81 : un [16, 45, 46, 2501, 9010, 22005, 22006, 22007, 22008, 22009, 22010, 22011, 22012] h74 h81 := hv81.mono (by decide)
                  subst hr80
                  show uRun _ (uCall Mt _) _ 173 (_, [], _, _, _)
                  refine ur_ldA rfl rfl ?_
                  refine ur_get rfl (hv81.ko (n := 8) (hv74.ko (n := 8) (hv53.ko (n := 8) hc32 rfl (wid_f (by decide)) (by decide)) rfl (wid_f (by decide)) (by decide)) rfl (wid_f (by decide)) (by decide)) rfl ?_
                  refine ur_ldA rfl rfl ?_
                  refine ur_ldI rfl rfl ?_
                  refine ur_inl rfl (rcv_of (hv81.ko (n := 11) (hv74.ko (n := 11) (hv53.ko (n := 11) hc34 rfl (wid_f (by decide)) (by decide)) rfl (wid_f (by decide)) (by decide)) rfl (wid_f (by decide)) (by decide))) (Nat.le_of_ble_eq_true rfl) (Nat.le_of_ble_eq_true rfl) (sn_X1_addWord hO81 g71 (hu81.tm (hu74.tm k52.2 (by decide)) (by decide)) _ (fun w82 h85 hr83 hO85 hv85 hp84 => ?_))
                  have hu85 : un [16, 45, 46, 2501, 9010, 22005, 22006, 22007, 22008, 22009, 22010, 22011, 22012] h81 h85 := hv85.mono (by decide)
                  obtain ⟨x86, rfl⟩ := hr83
                  show uRun _ (uCall Mt _) _ 183 (_, [(.inl x86)], _, _, _)
                  have t87 := hv74.nW (by decide)
                  have t88 := hv81.nW (by decide)
                  have t89 := hv85.nW (by decide)
                  exact ur_ret rfl rfl (hQ _ _ ⟨_, rfl⟩ hO85 (hu53.tr (hu74.tr (hu81.tr hu85))) (by omega))
              · have t90 := lt_no c44
                refine ur_push rfl ?_
                exact ur_ret rfl rfl (hQ _ _ ⟨_, rfl⟩ hO0 un.rf (by omega))
            · refine ur_push rfl ?_
              exact ur_ret rfl rfl (hQ _ _ ⟨_, rfl⟩ hO0 un.rf (by omega))
          · have t91 := eq_no c30
            refine ur_ldA rfl rfl ?_
            obtain ⟨hc92, k93⟩ := ok_0 hO0
            refine ur_get rfl hc92 rfl ?_
            refine ur_ldI rfl rfl ?_
            obtain ⟨f95, f96, f97, f98, hc94, k99⟩ := ok_15 hO0
            refine ur_inl rfl (rcv_of hc94) (Nat.le_of_ble_eq_true rfl) (Nat.le_of_ble_eq_true rfl) (sf_X1_isToldReign hO0 _ (fun w100 hr101 => ?_))
            obtain ⟨b102, rfl, t103⟩ := hr101
            show uRun _ (uCall Mt _) _ 70 (_, [(.inl (bi b102))], _, _, _)
            refine ur_neB rfl (fun c104 => ?_) (fun c104 => ?_)
            · have t105 := t103 c104
              refine ur_ldA rfl rfl ?_
              refine ur_get rfl hc92 rfl ?_
              refine ur_ldI rfl rfl ?_
              refine ur_ldI rfl rfl ?_
              refine ur_inl rfl (rcv_of hc94) (Nat.le_of_ble_eq_true rfl) (Nat.le_of_ble_eq_true rfl) (sf_X1_canBear hO0 _ _ (fun w106 hr107 => ?_))
              obtain ⟨b108, rfl⟩ := hr107
              show uRun _ (uCall Mt _) _ 85 (_, [(.inl (bi b108))], _, _, _)
              refine ur_neB rfl (fun c109 => ?_) (fun c109 => ?_)
              · refine ur_ldA rfl rfl ?_
                refine ur_get rfl hc92 rfl ?_
                refine ur_get rfl hc94 rfl ?_
                refine ur_push rfl ?_
                refine ur_if2 rfl (fun c110 => ?_) (fun c110 => ?_)
                · have t111 := lt_to c110
                  refine ur_new rfl (Nat.le_of_ble_eq_true rfl) ?_
                  refine ur_dup rfl rfl ?_
                  refine ur_ldA rfl rfl ?_
                  refine ur_get rfl (hs_ap hc92) rfl ?_
                  refine ur_get rfl (hs_ap hc94) rfl ?_
                  refine ur_ldI rfl rfl ?_
                  refine ur_ldI rfl rfl ?_
                  refine ur_ldI rfl rfl ?_
                  refine ur_push rfl ?_
                  refine ur_if2 rfl (fun c113 => ?_) (fun c113 => ?_)
                  · have t114 := ne_to c113
                    refine ur_ldI rfl rfl ?_
                    refine ur_ldI rfl rfl ?_
                    refine ur_inl rfl (rcv_of ap_0) (Nat.le_of_ble_eq_true rfl) (Nat.le_of_ble_eq_true rfl) (sn_newWord hO0 _ _ _ _ _ (by show (0 ≤ f95.toInt ∧ f95.toInt ≤ 149) ∧ (0 ≤ x8.toInt ∧ x8.toInt ≤ 7) ∧ (0 ≤ x1.toInt ∧ x1.toInt ≤ 8) ∧ -1 ≤ x12.toInt ∧ x12.toInt ≤ 19; omega) (fun w115 h118 hr116 hO118 hv118 k117 hn119 => ?_))
                    have hu118 : un [16, 45, 46, 2501, 9010, 22005, 22006, 22007, 22008, 22009, 22010, 22011, 22012] h0 h118 := hv118.mono (by decide)
                    subst hr116
                    show uRun _ (uCall Mt _) _ 138 (_, [(.inr (.inr (some h0.length)))], _, _, _)
                    refine ur_svAk [some (.inr (.inr (some 0))), some (.inl a1), some (.inl a2), some (.inl a3), some (.inl x1), some (.inl x8), some (.inl x12), some (.inr (.inr (some h0.length)))] rfl rfl ?_
                    refine ur_ldA rfl rfl ?_
                    refine ur_ldA rfl rfl ?_
                    refine ur_get rfl (hv118.ko (n := 8) hc92 rfl (wid_f (by decide)) (by decide)) rfl ?_
                    refine ur_get rfl (hv118.ko (n := 11) hc94 rfl (wid_f (by decide)) (by decide)) rfl ?_
                    refine ur_ldA rfl rfl ?_
                    refine ur_get rfl (hv118.ko (n := 8) hc92 rfl (wid_f (by decide)) (by decide)) rfl ?_
                    refine ur_get rfl (hv118.ko (n := 11) hc94 rfl (wid_f (by decide)) (by decide)) rfl ?_
                    refine ur_ldA rfl rfl ?_
                    refine ur_get rfl (hv118.ko (n := 8) hc92 rfl (wid_f (by decide)) (by decide)) rfl ?_
                    refine ur_get rfl (hv118.ko (n := 11) hc94 rfl (wid_f (by decide)) (by decide)) rfl ?_
                    obtain ⟨g136, f121, f122, f123, f124, f125, f126, f127, f128, f129, o133, f130, f131, f132, hc120, k134, k135⟩ := hO118.word k117.2
                    refine ur_inl rfl (rcv_of hc120) (Nat.le_of_ble_eq_true rfl) (Nat.le_of_ble_eq_true rfl) (sf_X10_dateIt hO118 g136 k117.2 _ _ _ (fun w137 h139 hr138 hO139 hv139 => ?_))
                    have hu139 : un [16, 45, 46, 2501, 9010, 22005, 22006, 22007, 22008, 22009, 22010, 22011, 22012] h118 h139 := hv139.mono (by decide)
                    subst hr138
                    show uRun _ (uCall Mt _) _ 166 (_, [], _, _, _)
                    refine ur_ldA rfl rfl ?_
                    refine ur_get rfl (hv139.ko (n := 8) (hv118.ko (n := 8) hc92 rfl (wid_f (by decide)) (by decide)) rfl (wid_f (by decide)) (by decide)) rfl ?_
                    obtain ⟨f141, f142, hc140, k143⟩ := ok_41 hO139
                    refine ur_inl rfl (rcv_of hc140) (Nat.le_of_ble_eq_true rfl) (Nat.le_of_ble_eq_true rfl) (sf_X7_forgetWeights hO139  (fun w144 h146 hr145 hO146 hv146 => ?_))
                    have hu146 : un [16, 45, 46, 2501, 9010, 22005, 22006, 22007, 22008, 22009, 22010, 22011, 22012] h139 h146 := hv146.mono (by decide)
                    subst hr145
                    show uRun _ (uCall Mt _) _ 173 (_, [], _, _, _)
                    refine ur_ldA rfl rfl ?_
                    refine ur_get rfl (hv146.ko (n := 8) (hv139.ko (n := 8) (hv118.ko (n := 8) hc92 rfl (wid_f (by decide)) (by decide)) rfl (wid_f (by decide)) (by decide)) rfl (wid_f (by decide)) (by decide)) rfl ?_
                    refine ur_ldA rfl rfl ?_
                    refine ur_ldI rfl rfl ?_
                    refine ur_inl rfl (rcv_of (hv146.ko (n := 11) (hv139.ko (n := 11) (hv118.ko (n := 11) hc94 rfl (wid_f (by decide)) (by decide)) rfl (wid_f (by decide)) (by decide)) rfl (wid_f (by decide)) (by decide))) (Nat.le_of_ble_eq_true rfl) (Nat.le_of_ble_eq_true rfl) (sn_X1_addWord hO146 g136 (hu146.tm (hu139.tm k117.2 (by decide)) (by decide)) _ (fun w147 h150 hr148 hO150 hv150 hp149 => ?_))
                    have hu150 : un [16, 45, 46, 2501, 9010, 22005, 22006, 22007, 22008, 22009, 22010, 22011, 22012] h146 h150 := hv150.mono (by decide)
                    obtain ⟨x151, rfl⟩ := hr148
                    show uRun _ (uCall Mt _) _ 183 (_, [(.inl x151)], _, _, _)
                    have t152 := hv139.nW (by decide)
                    have t153 := hv146.nW (by decide)
                    have t154 := hv150.nW (by decide)
                    exact ur_ret rfl rfl (hQ _ _ ⟨_, rfl⟩ hO150 (hu118.tr (hu139.tr (hu146.tr hu150))) (by omega))
                  · have t155 := ne_no c113
                    refine ur_push rfl ?_
                    refine ur_go rfl ?_
                    refine ur_ldI rfl rfl ?_
                    refine ur_inl rfl (rcv_of ap_0) (Nat.le_of_ble_eq_true rfl) (Nat.le_of_ble_eq_true rfl) (sn_newWord hO0 _ _ _ _ _ (by show (0 ≤ f95.toInt ∧ f95.toInt ≤ 149) ∧ (0 ≤ x8.toInt ∧ x8.toInt ≤ 7) ∧ (0 ≤ x1.toInt ∧ x1.toInt ≤ 8) ∧ -1 ≤ ((-1) : Int32).toInt ∧ ((-1) : Int32).toInt ≤ 19; omega) (fun w156 h159 hr157 hO159 hv159 k158 hn160 => ?_))
                    have hu159 : un [16, 45, 46, 2501, 9010, 22005, 22006, 22007, 22008, 22009, 22010, 22011, 22012] h0 h159 := hv159.mono (by decide)
                    subst hr157
                    show uRun _ (uCall Mt _) _ 138 (_, [(.inr (.inr (some h0.length)))], _, _, _)
                    refine ur_svAk [some (.inr (.inr (some 0))), some (.inl a1), some (.inl a2), some (.inl a3), some (.inl x1), some (.inl x8), some (.inl x12), some (.inr (.inr (some h0.length)))] rfl rfl ?_
                    refine ur_ldA rfl rfl ?_
                    refine ur_ldA rfl rfl ?_
                    refine ur_get rfl (hv159.ko (n := 8) hc92 rfl (wid_f (by decide)) (by decide)) rfl ?_
                    refine ur_get rfl (hv159.ko (n := 11) hc94 rfl (wid_f (by decide)) (by decide)) rfl ?_
                    refine ur_ldA rfl rfl ?_
                    refine ur_get rfl (hv159.ko (n := 8) hc92 rfl (wid_f (by decide)) (by decide)) rfl ?_
                    refine ur_get rfl (hv159.ko (n := 11) hc94 rfl (wid_f (by decide)) (by decide)) rfl ?_
                    refine ur_ldA rfl rfl ?_
                    refine ur_get rfl (hv159.ko (n := 8) hc92 rfl (wid_f (by decide)) (by decide)) rfl ?_
                    refine ur_get rfl (hv159.ko (n := 11) hc94 rfl (wid_f (by decide)) (by decide)) rfl ?_
                    obtain ⟨g177, f162, f163, f164, f165, f166, f167, f168, f169, f170, o174, f171, f172, f173, hc161, k175, k176⟩ := hO159.word k158.2
                    refine ur_inl rfl (rcv_of hc161) (Nat.le_of_ble_eq_true rfl) (Nat.le_of_ble_eq_true rfl) (sf_X10_dateIt hO159 g177 k158.2 _ _ _ (fun w178 h180 hr179 hO180 hv180 => ?_))
                    have hu180 : un [16, 45, 46, 2501, 9010, 22005, 22006, 22007, 22008, 22009, 22010, 22011, 22012] h159 h180 := hv180.mono (by decide)
                    subst hr179
                    show uRun _ (uCall Mt _) _ 166 (_, [], _, _, _)
                    refine ur_ldA rfl rfl ?_
                    refine ur_get rfl (hv180.ko (n := 8) (hv159.ko (n := 8) hc92 rfl (wid_f (by decide)) (by decide)) rfl (wid_f (by decide)) (by decide)) rfl ?_
                    obtain ⟨f182, f183, hc181, k184⟩ := ok_41 hO180
                    refine ur_inl rfl (rcv_of hc181) (Nat.le_of_ble_eq_true rfl) (Nat.le_of_ble_eq_true rfl) (sf_X7_forgetWeights hO180  (fun w185 h187 hr186 hO187 hv187 => ?_))
                    have hu187 : un [16, 45, 46, 2501, 9010, 22005, 22006, 22007, 22008, 22009, 22010, 22011, 22012] h180 h187 := hv187.mono (by decide)
                    subst hr186
                    show uRun _ (uCall Mt _) _ 173 (_, [], _, _, _)
                    refine ur_ldA rfl rfl ?_
                    refine ur_get rfl (hv187.ko (n := 8) (hv180.ko (n := 8) (hv159.ko (n := 8) hc92 rfl (wid_f (by decide)) (by decide)) rfl (wid_f (by decide)) (by decide)) rfl (wid_f (by decide)) (by decide)) rfl ?_
                    refine ur_ldA rfl rfl ?_
                    refine ur_ldI rfl rfl ?_
                    refine ur_inl rfl (rcv_of (hv187.ko (n := 11) (hv180.ko (n := 11) (hv159.ko (n := 11) hc94 rfl (wid_f (by decide)) (by decide)) rfl (wid_f (by decide)) (by decide)) rfl (wid_f (by decide)) (by decide))) (Nat.le_of_ble_eq_true rfl) (Nat.le_of_ble_eq_true rfl) (sn_X1_addWord hO187 g177 (hu187.tm (hu180.tm k158.2 (by decide)) (by decide)) _ (fun w188 h191 hr189 hO191 hv191 hp190 => ?_))
                    have hu191 : un [16, 45, 46, 2501, 9010, 22005, 22006, 22007, 22008, 22009, 22010, 22011, 22012] h187 h191 := hv191.mono (by decide)
                    obtain ⟨x192, rfl⟩ := hr189
                    show uRun _ (uCall Mt _) _ 183 (_, [(.inl x192)], _, _, _)
                    have t193 := hv180.nW (by decide)
                    have t194 := hv187.nW (by decide)
                    have t195 := hv191.nW (by decide)
                    exact ur_ret rfl rfl (hQ _ _ ⟨_, rfl⟩ hO191 (hu159.tr (hu180.tr (hu187.tr hu191))) (by omega))
                · have t196 := lt_no c110
                  refine ur_push rfl ?_
                  exact ur_ret rfl rfl (hQ _ _ ⟨_, rfl⟩ hO0 un.rf (by omega))
              · refine ur_push rfl ?_
                exact ur_ret rfl rfl (hQ _ _ ⟨_, rfl⟩ hO0 un.rf (by omega))
            · refine ur_push rfl ?_
              exact ur_ret rfl rfl (hQ _ _ ⟨_, rfl⟩ hO0 un.rf (by omega))
        · have t197 := wi_noL c28 l_0 l_400
          refine ur_push rfl ?_
          exact ur_ret rfl rfl (hQ _ _ ⟨_, rfl⟩ hO0 un.rf (by omega))

set_option maxRecDepth 20000 in
set_option maxHeartbeats 4000000 in
theorem sn_X11_addWordFromRow {d kc ks : Nat} {h0 : aH} {Q : Option aV → aH → Prop} (hO0 : OK h0) (a1 : Int32) (b1 : 0 ≤ a1.toInt ∧ a1.toInt ≤ 8) (a2 : Int32) (a3 : Int32) (hQ : ∀ r h', (∃ q, r = some (.inl (bi q))) → OK h' → un [16, 45, 46, 2501, 9010, 22005, 22006, 22007, 22008, 22009, 22010, 22011, 22012] h0 h' → (nW h' ≤ nW h0 + 1) → Q r h') : uCall Mt (d + 7) 167 [(.inr (.inr (some 0))), (.inl a1), (.inl a2), (.inl a3)] h0 kc ks Q := by
  have l_m1 : ((-1) : Int32).toInt = -1 := by decide
  have l_0 : ((0) : Int32).toInt = 0 := by decide
  have l_1 : ((1) : Int32).toInt = 1 := by decide
  have l_2 : ((2) : Int32).toInt = 2 := by decide
  have l_3 : ((3) : Int32).toInt = 3 := by decide
  have l_4 : ((4) : Int32).toInt = 4 := by decide
  have l_5 : ((5) : Int32).toInt = 5 := by decide
  have l_150 : ((150) : Int32).toInt = 150 := by decide
  have l_400 : ((400) : Int32).toInt = 400 := by decide
  have l_9999 : ((9999) : Int32).toInt = 9999 := by decide
  refine uc_ink [some (.inr (.inr (some 0))), some (.inl a1), some (.inl a2), some (.inl a3), none, none, none, none, none, none] mt_167 (Nat.le_of_ble_eq_true rfl) rfl ?_
  refine ur_ldA rfl rfl ?_
  obtain ⟨hc1, k2⟩ := ok_0 hO0
  refine ur_get rfl hc1 rfl ?_
  refine ur_ldI rfl rfl ?_
  refine ur_ldI rfl rfl ?_
  obtain ⟨hc3, k4⟩ := ok_57 hO0
  refine ur_inl rfl (rcv_of hc3) (Nat.le_of_ble_eq_true rfl) (Nat.le_of_ble_eq_true rfl) (sf_X4_read hO0 _ _ (fun w5 hr6 => ?_))
  obtain ⟨y7, rfl⟩ := hr6
  show uRun _ (uCall Mt _) _ 9 (_, [(.inr (.inl y7))], _, _, _)
  refine ur_l2iV rfl (fun x8 e9 => ?_)
  refine ur_svIk [some (.inr (.inr (some 0))), some (.inl a1), some (.inl a2), some (.inl a3), some (.inl x8), none, none, none, none, none] rfl rfl ?_
  refine ur_ldA rfl rfl ?_
  refine ur_get rfl hc1 rfl ?_
  refine ur_ldI rfl rfl ?_
  refine ur_ldI rfl rfl ?_
  refine ur_push rfl ?_
  refine ur_binV rfl (fun x10 e11 => ?_)
  have z12 := any_r a3
  refine ur_inl rfl (rcv_of hc3) (Nat.le_of_ble_eq_true rfl) (Nat.le_of_ble_eq_true rfl) (sf_X4_read hO0 _ _ (fun w13 hr14 => ?_))
  obtain ⟨y15, rfl⟩ := hr14
  show uRun _ (uCall Mt _) _ 23 (_, [(.inr (.inl y15))], _, _, _)
  refine ur_l2iV rfl (fun x16 e17 => ?_)
  refine ur_svIk [some (.inr (.inr (some 0))), some (.inl a1), some (.inl a2), some (.inl a3), some (.inl x8), some (.inl x16), none, none, none, none] rfl rfl ?_
  refine ur_ldA rfl rfl ?_
  refine ur_get rfl hc1 rfl ?_
  refine ur_ldI rfl rfl ?_
  refine ur_ldI rfl rfl ?_
  refine ur_push rfl ?_
  refine ur_binV rfl (fun x18 e19 => ?_)
  refine ur_inl rfl (rcv_of hc3) (Nat.le_of_ble_eq_true rfl) (Nat.le_of_ble_eq_true rfl) (sf_X4_read hO0 _ _ (fun w20 hr21 => ?_))
  obtain ⟨y22, rfl⟩ := hr21
  show uRun _ (uCall Mt _) _ 37 (_, [(.inr (.inl y22))], _, _, _)
  refine ur_l2iV rfl (fun x23 e24 => ?_)
  refine ur_svIk [some (.inr (.inr (some 0))), some (.inl a1), some (.inl a2), some (.inl a3), some (.inl x8), some (.inl x16), some (.inl x23), none, none, none] rfl rfl ?_
  refine ur_ldA rfl rfl ?_
  refine ur_get rfl hc1 rfl ?_
  refine ur_ldI rfl rfl ?_
  refine ur_ldI rfl rfl ?_
  refine ur_push rfl ?_
  refine ur_binV rfl (fun x25 e26 => ?_)
  refine ur_inl rfl (rcv_of hc3) (Nat.le_of_ble_eq_true rfl) (Nat.le_of_ble_eq_true rfl) (sf_X4_read hO0 _ _ (fun w27 hr28 => ?_))
  obtain ⟨y29, rfl⟩ := hr28
  show uRun _ (uCall Mt _) _ 51 (_, [(.inr (.inl y29))], _, _, _)
  refine ur_l2iV rfl (fun x30 e31 => ?_)
  refine ur_svIk [some (.inr (.inr (some 0))), some (.inl a1), some (.inl a2), some (.inl a3), some (.inl x8), some (.inl x16), some (.inl x23), some (.inl x30), none, none] rfl rfl ?_
  refine ur_ldA rfl rfl ?_
  refine ur_get rfl hc1 rfl ?_
  refine ur_ldI rfl rfl ?_
  refine ur_ldI rfl rfl ?_
  refine ur_push rfl ?_
  refine ur_binV rfl (fun x32 e33 => ?_)
  refine ur_inl rfl (rcv_of hc3) (Nat.le_of_ble_eq_true rfl) (Nat.le_of_ble_eq_true rfl) (sf_X4_read hO0 _ _ (fun w34 hr35 => ?_))
  obtain ⟨y36, rfl⟩ := hr35
  show uRun _ (uCall Mt _) _ 65 (_, [(.inr (.inl y36))], _, _, _)
  refine ur_l2iV rfl (fun x37 e38 => ?_)
  refine ur_svIk [some (.inr (.inr (some 0))), some (.inl a1), some (.inl a2), some (.inl a3), some (.inl x8), some (.inl x16), some (.inl x23), some (.inl x30), some (.inl x37), none] rfl rfl ?_
  refine ur_ldI rfl rfl ?_
  refine ur_callv rfl rfl (Nat.le_of_ble_eq_true rfl) (Nat.le_of_ble_eq_true rfl) rfl (sp_isDat _ _) ?_
  refine ur_eqB rfl (fun c41 => ?_) (fun c41 => ?_)
  · have t42 := wi_noL c41 l_0 l_9999
    refine ur_push rfl ?_
    exact ur_ret rfl rfl (hQ _ _ ⟨false, rfl⟩ hO0 un.rf (by omega))
  · have t43 := wi_toL c41 l_0 l_9999
    refine ur_ldI rfl rfl ?_
    refine ur_callv rfl rfl (Nat.le_of_ble_eq_true rfl) (Nat.le_of_ble_eq_true rfl) rfl (sp_isDat _ _) ?_
    refine ur_eqB rfl (fun c46 => ?_) (fun c46 => ?_)
    · have t47 := wi_noL c46 l_0 l_9999
      refine ur_push rfl ?_
      exact ur_ret rfl rfl (hQ _ _ ⟨false, rfl⟩ hO0 un.rf (by omega))
    · have t48 := wi_toL c46 l_0 l_9999
      refine ur_ldI rfl rfl ?_
      refine ur_callv rfl rfl (Nat.le_of_ble_eq_true rfl) (Nat.le_of_ble_eq_true rfl) rfl (sp_isDat _ _) ?_
      refine ur_eqB rfl (fun c51 => ?_) (fun c51 => ?_)
      · have t52 := wi_noL c51 l_0 l_9999
        refine ur_push rfl ?_
        exact ur_ret rfl rfl (hQ _ _ ⟨false, rfl⟩ hO0 un.rf (by omega))
      · have t53 := wi_toL c51 l_0 l_9999
        refine ur_ldI rfl rfl ?_
        refine ur_push rfl ?_
        refine ur_push rfl ?_
        refine ur_callv rfl rfl (Nat.le_of_ble_eq_true rfl) (Nat.le_of_ble_eq_true rfl) rfl (sp_within _ _ _ _ _) ?_
        refine ur_neB rfl (fun c56 => ?_) (fun c56 => ?_)
        · have t57 := wi_toL c56 l_0 l_400
          refine ur_ldI rfl rfl ?_
          refine ur_if1 rfl (fun c58 => ?_) (fun c58 => ?_)
          · have t59 := eq_to c58
            refine ur_ldA rfl rfl ?_
            refine ur_get rfl hc1 rfl ?_
            obtain ⟨f61, f62, f63, f64, hc60, k65⟩ := ok_15 hO0
            refine ur_get rfl hc60 rfl ?_
            refine ur_push rfl ?_
            refine ur_if2 rfl (fun c66 => ?_) (fun c66 => ?_)
            · have t67 := lt_to c66
              refine ur_new rfl (Nat.le_of_ble_eq_true rfl) ?_
              refine ur_dup rfl rfl ?_
              refine ur_ldA rfl rfl ?_
              refine ur_get rfl (hs_ap hc1) rfl ?_
              refine ur_get rfl (hs_ap hc60) rfl ?_
              refine ur_ldI rfl rfl ?_
              refine ur_ldI rfl rfl ?_
              refine ur_push rfl ?_
              refine ur_ldI rfl rfl ?_
              refine ur_inl rfl (rcv_of ap_0) (Nat.le_of_ble_eq_true rfl) (Nat.le_of_ble_eq_true rfl) (sn_newWord hO0 _ _ _ _ _ (by show (0 ≤ f61.toInt ∧ f61.toInt ≤ 149) ∧ (0 ≤ x37.toInt ∧ x37.toInt ≤ 7) ∧ (0 ≤ a1.toInt ∧ a1.toInt ≤ 8) ∧ -1 ≤ ((-1) : Int32).toInt ∧ ((-1) : Int32).toInt ≤ 19; omega) (fun w69 h72 hr70 hO72 hv72 k71 hn73 => ?_))
              have hu72 : un [16, 45, 46, 2501, 9010, 22005, 22006, 22007, 22008, 22009, 22010, 22011, 22012] h0 h72 := hv72.mono (by decide)
              subst hr70
              show uRun _ (uCall Mt _) _ 160 (_, [(.inr (.inr (some h0.length)))], _, _, _)
              refine ur_svAk [some (.inr (.inr (some 0))), some (.inl a1), some (.inl a2), some (.inl a3), some (.inl x8), some (.inl x16), some (.inl x23), some (.inl x30), some (.inl x37), some (.inr (.inr (some h0.length)))] rfl rfl ?_
              refine ur_ldA rfl rfl ?_
              refine ur_ldI rfl rfl ?_
              refine ur_ldI rfl rfl ?_
              refine ur_ldI rfl rfl ?_
              obtain ⟨g90, f75, f76, f77, f78, f79, f80, f81, f82, f83, o87, f84, f85, f86, hc74, k88, k89⟩ := hO72.word k71.2
              refine ur_inl rfl (rcv_of hc74) (Nat.le_of_ble_eq_true rfl) (Nat.le_of_ble_eq_true rfl) (sf_X10_dateIt hO72 g90 k71.2 _ _ _ (fun w91 h93 hr92 hO93 hv93 => ?_))
              have hu93 : un [16, 45, 46, 2501, 9010, 22005, 22006, 22007, 22008, 22009, 22010, 22011, 22012] h72 h93 := hv93.mono (by decide)
              subst hr92
              show uRun _ (uCall Mt _) _ 173 (_, [], _, _, _)
              refine ur_ldA rfl rfl ?_
              refine ur_get rfl (hv93.ko (n := 8) (hv72.ko (n := 8) hc1 rfl (wid_f (by decide)) (by decide)) rfl (wid_f (by decide)) (by decide)) rfl ?_
              obtain ⟨f95, f96, hc94, k97⟩ := ok_41 hO93
              refine ur_inl rfl (rcv_of hc94) (Nat.le_of_ble_eq_true rfl) (Nat.le_of_ble_eq_true rfl) (sf_X7_forgetWeights hO93  (fun w98 h100 hr99 hO100 hv100 => ?_))
              have hu100 : un [16, 45, 46, 2501, 9010, 22005, 22006, 22007, 22008, 22009, 22010, 22011, 22012] h93 h100 := hv100.mono (by decide)
              subst hr99
              show uRun _ (uCall Mt _) _ 180 (_, [], _, _, _)
              refine ur_ldA rfl rfl ?_
              refine ur_get rfl (hv100.ko (n := 8) (hv93.ko (n := 8) (hv72.ko (n := 8) hc1 rfl (wid_f (by decide)) (by decide)) rfl (wid_f (by decide)) (by decide)) rfl (wid_f (by decide)) (by decide)) rfl ?_
              refine ur_ldA rfl rfl ?_
              refine ur_push rfl ?_
              refine ur_inl rfl (rcv_of (hv100.ko (n := 11) (hv93.ko (n := 11) (hv72.ko (n := 11) hc60 rfl (wid_f (by decide)) (by decide)) rfl (wid_f (by decide)) (by decide)) rfl (wid_f (by decide)) (by decide))) (Nat.le_of_ble_eq_true rfl) (Nat.le_of_ble_eq_true rfl) (sn_X1_addWord hO100 g90 (hu100.tm (hu93.tm k71.2 (by decide)) (by decide)) _ (fun w101 h104 hr102 hO104 hv104 hp103 => ?_))
              have hu104 : un [16, 45, 46, 2501, 9010, 22005, 22006, 22007, 22008, 22009, 22010, 22011, 22012] h100 h104 := hv104.mono (by decide)
              obtain ⟨x105, rfl⟩ := hr102
              show uRun _ (uCall Mt _) _ 190 (_, [(.inl x105)], _, _, _)
              refine ur_pop rfl rfl ?_
              refine ur_push rfl ?_
              have t106 := hv93.nW (by decide)
              have t107 := hv100.nW (by decide)
              have t108 := hv104.nW (by decide)
              exact ur_ret rfl rfl (hQ _ _ ⟨true, rfl⟩ hO104 (hu72.tr (hu93.tr (hu100.tr hu104))) (by omega))
            · have t109 := lt_no c66
              refine ur_push rfl ?_
              exact ur_ret rfl rfl (hQ _ _ ⟨false, rfl⟩ hO0 un.rf (by omega))
          · have t110 := eq_no c58
            refine ur_ldI rfl rfl ?_
            refine ur_push rfl ?_
            refine ur_if2 rfl (fun c111 => ?_) (fun c111 => ?_)
            · have t112 := eq_to c111
              refine ur_ldA rfl rfl ?_
              refine ur_get rfl hc1 rfl ?_
              obtain ⟨f114, f115, f116, f117, hc113, k118⟩ := ok_15 hO0
              refine ur_get rfl hc113 rfl ?_
              refine ur_push rfl ?_
              refine ur_if2 rfl (fun c119 => ?_) (fun c119 => ?_)
              · have t120 := lt_to c119
                refine ur_new rfl (Nat.le_of_ble_eq_true rfl) ?_
                refine ur_dup rfl rfl ?_
                refine ur_ldA rfl rfl ?_
                refine ur_get rfl (hs_ap hc1) rfl ?_
                refine ur_get rfl (hs_ap hc113) rfl ?_
                refine ur_ldI rfl rfl ?_
                refine ur_ldI rfl rfl ?_
                refine ur_push rfl ?_
                refine ur_ldI rfl rfl ?_
                refine ur_inl rfl (rcv_of ap_0) (Nat.le_of_ble_eq_true rfl) (Nat.le_of_ble_eq_true rfl) (sn_newWord hO0 _ _ _ _ _ (by show (0 ≤ f114.toInt ∧ f114.toInt ≤ 149) ∧ (0 ≤ x37.toInt ∧ x37.toInt ≤ 7) ∧ (0 ≤ a1.toInt ∧ a1.toInt ≤ 8) ∧ -1 ≤ ((-1) : Int32).toInt ∧ ((-1) : Int32).toInt ≤ 19; omega) (fun w122 h125 hr123 hO125 hv125 k124 hn126 => ?_))
                have hu125 : un [16, 45, 46, 2501, 9010, 22005, 22006, 22007, 22008, 22009, 22010, 22011, 22012] h0 h125 := hv125.mono (by decide)
                subst hr123
                show uRun _ (uCall Mt _) _ 160 (_, [(.inr (.inr (some h0.length)))], _, _, _)
                refine ur_svAk [some (.inr (.inr (some 0))), some (.inl a1), some (.inl a2), some (.inl a3), some (.inl x8), some (.inl x16), some (.inl x23), some (.inl x30), some (.inl x37), some (.inr (.inr (some h0.length)))] rfl rfl ?_
                refine ur_ldA rfl rfl ?_
                refine ur_ldI rfl rfl ?_
                refine ur_ldI rfl rfl ?_
                refine ur_ldI rfl rfl ?_
                obtain ⟨g143, f128, f129, f130, f131, f132, f133, f134, f135, f136, o140, f137, f138, f139, hc127, k141, k142⟩ := hO125.word k124.2
                refine ur_inl rfl (rcv_of hc127) (Nat.le_of_ble_eq_true rfl) (Nat.le_of_ble_eq_true rfl) (sf_X10_dateIt hO125 g143 k124.2 _ _ _ (fun w144 h146 hr145 hO146 hv146 => ?_))
                have hu146 : un [16, 45, 46, 2501, 9010, 22005, 22006, 22007, 22008, 22009, 22010, 22011, 22012] h125 h146 := hv146.mono (by decide)
                subst hr145
                show uRun _ (uCall Mt _) _ 173 (_, [], _, _, _)
                refine ur_ldA rfl rfl ?_
                refine ur_get rfl (hv146.ko (n := 8) (hv125.ko (n := 8) hc1 rfl (wid_f (by decide)) (by decide)) rfl (wid_f (by decide)) (by decide)) rfl ?_
                obtain ⟨f148, f149, hc147, k150⟩ := ok_41 hO146
                refine ur_inl rfl (rcv_of hc147) (Nat.le_of_ble_eq_true rfl) (Nat.le_of_ble_eq_true rfl) (sf_X7_forgetWeights hO146  (fun w151 h153 hr152 hO153 hv153 => ?_))
                have hu153 : un [16, 45, 46, 2501, 9010, 22005, 22006, 22007, 22008, 22009, 22010, 22011, 22012] h146 h153 := hv153.mono (by decide)
                subst hr152
                show uRun _ (uCall Mt _) _ 180 (_, [], _, _, _)
                refine ur_ldA rfl rfl ?_
                refine ur_get rfl (hv153.ko (n := 8) (hv146.ko (n := 8) (hv125.ko (n := 8) hc1 rfl (wid_f (by decide)) (by decide)) rfl (wid_f (by decide)) (by decide)) rfl (wid_f (by decide)) (by decide)) rfl ?_
                refine ur_ldA rfl rfl ?_
                refine ur_push rfl ?_
                refine ur_inl rfl (rcv_of (hv153.ko (n := 11) (hv146.ko (n := 11) (hv125.ko (n := 11) hc113 rfl (wid_f (by decide)) (by decide)) rfl (wid_f (by decide)) (by decide)) rfl (wid_f (by decide)) (by decide))) (Nat.le_of_ble_eq_true rfl) (Nat.le_of_ble_eq_true rfl) (sn_X1_addWord hO153 g143 (hu153.tm (hu146.tm k124.2 (by decide)) (by decide)) _ (fun w154 h157 hr155 hO157 hv157 hp156 => ?_))
                have hu157 : un [16, 45, 46, 2501, 9010, 22005, 22006, 22007, 22008, 22009, 22010, 22011, 22012] h153 h157 := hv157.mono (by decide)
                obtain ⟨x158, rfl⟩ := hr155
                show uRun _ (uCall Mt _) _ 190 (_, [(.inl x158)], _, _, _)
                refine ur_pop rfl rfl ?_
                refine ur_push rfl ?_
                have t159 := hv146.nW (by decide)
                have t160 := hv153.nW (by decide)
                have t161 := hv157.nW (by decide)
                exact ur_ret rfl rfl (hQ _ _ ⟨true, rfl⟩ hO157 (hu125.tr (hu146.tr (hu153.tr hu157))) (by omega))
              · have t162 := lt_no c119
                refine ur_push rfl ?_
                exact ur_ret rfl rfl (hQ _ _ ⟨false, rfl⟩ hO0 un.rf (by omega))
            · have t163 := eq_no c111
              refine ur_ldI rfl rfl ?_
              refine ur_push rfl ?_
              refine ur_if2 rfl (fun c164 => ?_) (fun c164 => ?_)
              · have t165 := eq_to c164
                refine ur_ldA rfl rfl ?_
                refine ur_get rfl hc1 rfl ?_
                obtain ⟨f167, f168, f169, f170, hc166, k171⟩ := ok_15 hO0
                refine ur_get rfl hc166 rfl ?_
                refine ur_push rfl ?_
                refine ur_if2 rfl (fun c172 => ?_) (fun c172 => ?_)
                · have t173 := lt_to c172
                  refine ur_new rfl (Nat.le_of_ble_eq_true rfl) ?_
                  refine ur_dup rfl rfl ?_
                  refine ur_ldA rfl rfl ?_
                  refine ur_get rfl (hs_ap hc1) rfl ?_
                  refine ur_get rfl (hs_ap hc166) rfl ?_
                  refine ur_ldI rfl rfl ?_
                  refine ur_ldI rfl rfl ?_
                  refine ur_push rfl ?_
                  refine ur_ldI rfl rfl ?_
                  refine ur_inl rfl (rcv_of ap_0) (Nat.le_of_ble_eq_true rfl) (Nat.le_of_ble_eq_true rfl) (sn_newWord hO0 _ _ _ _ _ (by show (0 ≤ f167.toInt ∧ f167.toInt ≤ 149) ∧ (0 ≤ x37.toInt ∧ x37.toInt ≤ 7) ∧ (0 ≤ a1.toInt ∧ a1.toInt ≤ 8) ∧ -1 ≤ ((-1) : Int32).toInt ∧ ((-1) : Int32).toInt ≤ 19; omega) (fun w175 h178 hr176 hO178 hv178 k177 hn179 => ?_))
                  have hu178 : un [16, 45, 46, 2501, 9010, 22005, 22006, 22007, 22008, 22009, 22010, 22011, 22012] h0 h178 := hv178.mono (by decide)
                  subst hr176
                  show uRun _ (uCall Mt _) _ 160 (_, [(.inr (.inr (some h0.length)))], _, _, _)
                  refine ur_svAk [some (.inr (.inr (some 0))), some (.inl a1), some (.inl a2), some (.inl a3), some (.inl x8), some (.inl x16), some (.inl x23), some (.inl x30), some (.inl x37), some (.inr (.inr (some h0.length)))] rfl rfl ?_
                  refine ur_ldA rfl rfl ?_
                  refine ur_ldI rfl rfl ?_
                  refine ur_ldI rfl rfl ?_
                  refine ur_ldI rfl rfl ?_
                  obtain ⟨g196, f181, f182, f183, f184, f185, f186, f187, f188, f189, o193, f190, f191, f192, hc180, k194, k195⟩ := hO178.word k177.2
                  refine ur_inl rfl (rcv_of hc180) (Nat.le_of_ble_eq_true rfl) (Nat.le_of_ble_eq_true rfl) (sf_X10_dateIt hO178 g196 k177.2 _ _ _ (fun w197 h199 hr198 hO199 hv199 => ?_))
                  have hu199 : un [16, 45, 46, 2501, 9010, 22005, 22006, 22007, 22008, 22009, 22010, 22011, 22012] h178 h199 := hv199.mono (by decide)
                  subst hr198
                  show uRun _ (uCall Mt _) _ 173 (_, [], _, _, _)
                  refine ur_ldA rfl rfl ?_
                  refine ur_get rfl (hv199.ko (n := 8) (hv178.ko (n := 8) hc1 rfl (wid_f (by decide)) (by decide)) rfl (wid_f (by decide)) (by decide)) rfl ?_
                  obtain ⟨f201, f202, hc200, k203⟩ := ok_41 hO199
                  refine ur_inl rfl (rcv_of hc200) (Nat.le_of_ble_eq_true rfl) (Nat.le_of_ble_eq_true rfl) (sf_X7_forgetWeights hO199  (fun w204 h206 hr205 hO206 hv206 => ?_))
                  have hu206 : un [16, 45, 46, 2501, 9010, 22005, 22006, 22007, 22008, 22009, 22010, 22011, 22012] h199 h206 := hv206.mono (by decide)
                  subst hr205
                  show uRun _ (uCall Mt _) _ 180 (_, [], _, _, _)
                  refine ur_ldA rfl rfl ?_
                  refine ur_get rfl (hv206.ko (n := 8) (hv199.ko (n := 8) (hv178.ko (n := 8) hc1 rfl (wid_f (by decide)) (by decide)) rfl (wid_f (by decide)) (by decide)) rfl (wid_f (by decide)) (by decide)) rfl ?_
                  refine ur_ldA rfl rfl ?_
                  refine ur_push rfl ?_
                  refine ur_inl rfl (rcv_of (hv206.ko (n := 11) (hv199.ko (n := 11) (hv178.ko (n := 11) hc166 rfl (wid_f (by decide)) (by decide)) rfl (wid_f (by decide)) (by decide)) rfl (wid_f (by decide)) (by decide))) (Nat.le_of_ble_eq_true rfl) (Nat.le_of_ble_eq_true rfl) (sn_X1_addWord hO206 g196 (hu206.tm (hu199.tm k177.2 (by decide)) (by decide)) _ (fun w207 h210 hr208 hO210 hv210 hp209 => ?_))
                  have hu210 : un [16, 45, 46, 2501, 9010, 22005, 22006, 22007, 22008, 22009, 22010, 22011, 22012] h206 h210 := hv210.mono (by decide)
                  obtain ⟨x211, rfl⟩ := hr208
                  show uRun _ (uCall Mt _) _ 190 (_, [(.inl x211)], _, _, _)
                  refine ur_pop rfl rfl ?_
                  refine ur_push rfl ?_
                  have t212 := hv199.nW (by decide)
                  have t213 := hv206.nW (by decide)
                  have t214 := hv210.nW (by decide)
                  exact ur_ret rfl rfl (hQ _ _ ⟨true, rfl⟩ hO210 (hu178.tr (hu199.tr (hu206.tr hu210))) (by omega))
                · have t215 := lt_no c172
                  refine ur_push rfl ?_
                  exact ur_ret rfl rfl (hQ _ _ ⟨false, rfl⟩ hO0 un.rf (by omega))
              · have t216 := eq_no c164
                refine ur_push rfl ?_
                exact ur_ret rfl rfl (hQ _ _ ⟨false, rfl⟩ hO0 un.rf (by omega))
        · have t217 := wi_noL c56 l_0 l_400
          refine ur_push rfl ?_
          exact ur_ret rfl rfl (hQ _ _ ⟨false, rfl⟩ hO0 un.rf (by omega))

set_option maxRecDepth 20000 in
set_option maxHeartbeats 4000000 in
theorem sn_X11_words {d kc ks : Nat} {h0 : aH} {Q : Option aV → aH → Prop} (hO0 : OK h0) (a1 : Int32) (a2 : Int32) (a3 : Int32) (a4 : Int32) (hQ : ∀ r h', (∃ x, r = some (.inl x)) → OK h' → un [16, 45, 46, 2501, 9010, 22005, 22006, 22007, 22008, 22009, 22010, 22011, 22012] h0 h' → (nW h' ≤ nW h0 + 12) → Q r h') : uCall Mt (d + 8) 136 [(.inr (.inr (some 0))), (.inl a1), (.inl a2), (.inl a3), (.inl a4)] h0 kc ks Q := by
  have l_m12 : ((-12) : Int32).toInt = -12 := by decide
  have l_m1 : ((-1) : Int32).toInt = -1 := by decide
  have l_0 : ((0) : Int32).toInt = 0 := by decide
  have l_1 : ((1) : Int32).toInt = 1 := by decide
  have l_5 : ((5) : Int32).toInt = 5 := by decide
  have l_8 : ((8) : Int32).toInt = 8 := by decide
  have l_12 : ((12) : Int32).toInt = 12 := by decide
  refine uc_ink [some (.inr (.inr (some 0))), some (.inl a1), some (.inl a2), some (.inl a3), some (.inl a4), none, none] mt_136 (Nat.le_of_ble_eq_true rfl) rfl ?_
  refine ur_ldI rfl rfl ?_
  refine ur_callv rfl rfl (Nat.le_of_ble_eq_true rfl) (Nat.le_of_ble_eq_true rfl) rfl (sp_isPpl _ _) ?_
  refine ur_eqB rfl (fun c3 => ?_) (fun c3 => ?_)
  · have t4 := wi_noL c3 l_0 l_8
    refine ur_push rfl ?_
    exact ur_ret rfl rfl (hQ _ _ ⟨_, rfl⟩ hO0 un.rf (by omega))
  · have t5 := wi_toL c3 l_0 l_8
    refine ur_ldA rfl rfl ?_
    obtain ⟨hc6, k7⟩ := ok_0 hO0
    refine ur_get rfl hc6 rfl ?_
    refine ur_ldI rfl rfl ?_
    obtain ⟨hc8, k9⟩ := ok_57 hO0
    refine ur_callv rfl rfl (Nat.le_of_ble_eq_true rfl) (Nat.le_of_ble_eq_true rfl) (rcv_of hc8) (sp_page _ _) ?_
    refine ur_eqB rfl (fun c12 => ?_) (fun c12 => ?_)
    · have t13 := wi_noL c12 l_0 l_5
      refine ur_push rfl ?_
      exact ur_ret rfl rfl (hQ _ _ ⟨_, rfl⟩ hO0 un.rf (by omega))
    · have t14 := wi_toL c12 l_0 l_5
      refine ur_ldI rfl rfl ?_
      refine ur_push rfl ?_
      refine ur_push rfl ?_
      refine ur_callv rfl rfl (Nat.le_of_ble_eq_true rfl) (Nat.le_of_ble_eq_true rfl) rfl (sp_within _ _ _ _ _) ?_
      refine ur_neB rfl (fun c17 => ?_) (fun c17 => ?_)
      · have t18 := wi_toL c17 l_1 l_12
        refine ur_ldA rfl rfl ?_
        refine ur_get rfl hc6 rfl ?_
        refine ur_ldI rfl rfl ?_
        refine ur_inl rfl (rcv_of hc8) (Nat.le_of_ble_eq_true rfl) (Nat.le_of_ble_eq_true rfl) (sf_X4_isEmpty hO0 _ (fun w19 hr20 => ?_))
        obtain ⟨b21, rfl⟩ := hr20
        show uRun _ (uCall Mt _) _ 39 (_, [(.inl (bi b21))], _, _, _)
        refine ur_eqB rfl (fun c22 => ?_) (fun c22 => ?_)
        · refine ur_ldA rfl rfl ?_
          refine ur_get rfl hc6 rfl ?_
          refine ur_ldI rfl rfl ?_
          refine ur_inl rfl (rcv_of hc8) (Nat.le_of_ble_eq_true rfl) (Nat.le_of_ble_eq_true rfl) (sf_X4_holdsShorts hO0 _ (fun w23 hr24 => ?_))
          obtain ⟨b25, rfl⟩ := hr24
          show uRun _ (uCall Mt _) _ 52 (_, [(.inl (bi b25))], _, _, _)
          refine ur_neB rfl (fun c26 => ?_) (fun c26 => ?_)
          · refine ur_ldI rfl rfl ?_
            refine ur_if1 rfl (fun c27 => ?_) (fun c27 => ?_)
            · have t28 := le_to c27
              refine ur_push rfl ?_
              refine ur_svIk [some (.inr (.inr (some 0))), some (.inl a1), some (.inl a2), some (.inl a3), some (.inl a4), some (.inl 0), none] rfl rfl ?_
              refine ur_ldI rfl rfl ?_
              refine ur_svIk [some (.inr (.inr (some 0))), some (.inl a1), some (.inl a2), some (.inl a3), some (.inl a4), some (.inl 0), some (.inl a3)] rfl rfl ?_
              have L31 : ∀ (m32 : Nat) (x29 : Int32) (x30 : Int32) (h34 : aH) , OK h34 → un [16, 45, 46, 2501, 9010, 22005, 22006, 22007, 22008, 22009, 22010, 22011, 22012] h0 h34 → ((0 ≤ x29.toInt ∧ x29.toInt ≤ 12) ∧ nW h34 ≤ nW h0 + x29.toInt) → ((2147483648 - x29.toInt).toNat) < m32 → uRun oX11_words (uCall Mt (d + 7)) Q 70 ([some (.inr (.inr (some 0))), some (.inl a1), some (.inl a2), some (.inl a3), some (.inl a4), some (.inl x29), some (.inl x30)], [], h34, kc, ks) := by
                intro m32
                induction m32 with
                | zero => intro x29 x30 h34 hO34 hu34 iv35 mm36; omega
                | succ m32 ih33 =>
                  intro x29 x30 h34 hO34 hu34 iv35 mm36
                  refine ur_ldI rfl rfl ?_
                  refine ur_ldI rfl rfl ?_
                  have z37 := any_r x29
                  have z38 := any_r a4
                  refine ur_if2 rfl (fun c39 => ?_) (fun c39 => ?_)
                  · have t40 := le_to c39
                    refine ur_ldI rfl rfl ?_
                    exact ur_ret rfl rfl (hQ _ _ ⟨_, rfl⟩ hO34 hu34 (by omega))
                  · have t41 := le_no c39
                    refine ur_ldA rfl rfl ?_
                    refine ur_get rfl (hu34.ko (n := 8) hc6 rfl (wid_f (by decide)) (by decide)) rfl ?_
                    refine ur_ldI rfl rfl ?_
                    refine ur_ldI rfl rfl ?_
                    refine ur_inl rfl (rcv_of (hu34.ko (n := 5) hc8 rfl (wid_f (by decide)) (by decide))) (Nat.le_of_ble_eq_true rfl) (Nat.le_of_ble_eq_true rfl) (sf_X4_hasFiveFrom hO34 _ _ (fun w42 hr43 => ?_))
                    obtain ⟨b44, rfl⟩ := hr43
                    show uRun _ (uCall Mt _) _ 87 (_, [(.inl (bi b44))], _, _, _)
                    refine ur_eqB rfl (fun c45 => ?_) (fun c45 => ?_)
                    · refine ur_ldI rfl rfl ?_
                      exact ur_ret rfl rfl (hQ _ _ ⟨_, rfl⟩ hO34 hu34 (by omega))
                    · refine ur_ldA rfl rfl ?_
                      refine ur_ldI rfl rfl ?_
                      refine ur_ldI rfl rfl ?_
                      refine ur_ldI rfl rfl ?_
                      refine ur_inl rfl (rcv_of (hu34.ko (n := 8) hc6 rfl (wid_f (by decide)) (by decide))) (Nat.le_of_ble_eq_true rfl) (Nat.le_of_ble_eq_true rfl) (sn_X11_addWordFromRow hO34 _ (by show 0 ≤ a1.toInt ∧ a1.toInt ≤ 8; omega) _ _ (fun w46 h49 hr47 hO49 hv49 hp48 => ?_))
                      have hu49 := hv49
                      obtain ⟨b50, rfl⟩ := hr47
                      show uRun _ (uCall Mt _) _ 98 (_, [(.inl (bi b50))], _, _, _)
                      refine ur_neB rfl (fun c51 => ?_) (fun c51 => ?_)
                      · refine ur_incV (fun z => [some (.inr (.inr (some 0))), some (.inl a1), some (.inl a2), some (.inl a3), some (.inl a4), some (.inl z), some (.inl x30)]) rfl rfl (fun _ => rfl) (fun x52 e53 => ?_)
                        have t54 := ti_add e53 (by omega) (by omega)
                        refine ur_incV (fun z => [some (.inr (.inr (some 0))), some (.inl a1), some (.inl a2), some (.inl a3), some (.inl a4), some (.inl x52), some (.inl z)]) rfl rfl (fun _ => rfl) (fun x55 e56 => ?_)
                        have z57 := any_r x30
                        refine ur_go rfl ?_
                        have z58 := any_r x52
                        exact ih33 x52 x55 _ hO49 (hu34.tr hu49) (by omega) (by omega)
                      · refine ur_go rfl ?_
                        refine ur_ldI rfl rfl ?_
                        exact ur_ret rfl rfl (hQ _ _ ⟨_, rfl⟩ hO49 (hu34.tr hu49) (by omega))
              exact L31 _ 0 a3 _ hO0 un.rf (by omega) (Nat.lt_succ_self _)
            · have t59 := le_no c27
              refine ur_push rfl ?_
              exact ur_ret rfl rfl (hQ _ _ ⟨_, rfl⟩ hO0 un.rf (by omega))
          · refine ur_push rfl ?_
            exact ur_ret rfl rfl (hQ _ _ ⟨_, rfl⟩ hO0 un.rf (by omega))
        · refine ur_push rfl ?_
          exact ur_ret rfl rfl (hQ _ _ ⟨_, rfl⟩ hO0 un.rf (by omega))
      · have t60 := wi_noL c17 l_1 l_12
        refine ur_push rfl ?_
        exact ur_ret rfl rfl (hQ _ _ ⟨_, rfl⟩ hO0 un.rf (by omega))
end CNB
