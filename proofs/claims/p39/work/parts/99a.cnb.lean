/-! COMETS AND WORDS counted, printed by program -/
section CNB
set_option maxRecDepth 20000 in
set_option maxHeartbeats 4000000 in
theorem sn_X6_addComet {d kc ks : Nat} {h0 : aH} {Q : Option aV → aH → Prop} (hO0 : OK h0) {a1 : Nat} (g1 : 114 ≤ a1) (t1 : tg h0 a1 = (102, 14)) (hQ : ∀ r h', (∃ x, r = some (.inl x)) → OK h' → un [4, 221, 1104, 21208, 21209] h0 h' → (nC h' ≤ nC h0 + 0) → Q r h') : uCall Mt (d + 5) 59 [(.inr (.inr (some 1))), (.inr (.inr (some a1)))] h0 kc ks Q := by
  have l_m3 : ((-3) : Int32).toInt = -3 := by decide
  have l_1 : ((1) : Int32).toInt = 1 := by decide
  have l_12 : ((12) : Int32).toInt = 12 := by decide
  refine uc_ink [some (.inr (.inr (some 1))), some (.inr (.inr (some a1)))] mt_59 (Nat.le_of_ble_eq_true rfl) rfl ?_
  refine ur_ldA rfl rfl ?_
  obtain ⟨f2, f3, hc1, k4⟩ := ok_1 hO0
  refine ur_get rfl hc1 rfl ?_
  refine ur_push rfl ?_
  refine ur_if2 rfl (fun c5 => ?_) (fun c5 => ?_)
  · have t6 := lt_to c5
    refine ur_ldA rfl rfl ?_
    refine ur_get rfl hc1 rfl ?_
    refine ur_ldA rfl rfl ?_
    refine ur_get rfl hc1 rfl ?_
    refine ur_ldA rfl rfl ?_
    obtain ⟨g27, f8, f9, f10, f11, f12, f13, f14, f15, f16, f17, q18, q19, o20, q21, hc7, k22, k23, k24, k25, k26⟩ := hO0.comet t1
    obtain ⟨xs29, hc28, hn30, he31⟩ := hO0.com (hO0.fix 4 (by decide) rfl)
    refine ur_astAV (W := [4]) (m := 12) rfl hO0 hc28 hc7 (Or.inl ⟨rfl, g27, t1⟩) hn30 (by omega) (Or.inr (Or.inr (wid_fix (by decide) (by decide)))) (fun h34 hO34 hv34 d32 hc33 => ?_)
    have hu34 : un [4, 221, 1104, 21208, 21209] h0 h34 := hv34.mono (by decide)
    refine ur_ldA rfl rfl ?_
    refine ur_dup rfl rfl ?_
    refine ur_get rfl ((d32 _ (by decide)).trans hc1) rfl ?_
    refine ur_push rfl ?_
    refine ur_binV rfl (fun x35 e36 => ?_)
    have z37 := any_r f3
    have t38 := ti_add e36 (by omega) (by omega)
    refine ur_putV (W := [1104]) (fs' := [(.inr (.inr (some 2))), (.inr (.inr (some 3))), (.inl f2), (.inr (.inr (some 4))), (.inl x35)]) rfl hO34 ((d32 _ (by decide)).trans hc1) (Nat.le_of_ble_eq_true rfl) rfl rfl ⟨rfl, _, _, rfl, by omega⟩ rfl (Or.inr (by show 1000 + 100 * wid 1 (106, 5) + 4 ∈ _; rw [(wid_f (by decide))]; decide)) (fun h40 hO40 hv40 d39 hc41 => ?_)
    have hu40 : un [4, 221, 1104, 21208, 21209] h34 h40 := hv40.mono (by decide)
    refine ur_ldA rfl rfl ?_
    refine ur_ldA rfl rfl ?_
    refine ur_inl rfl (rcv_of hc41) (Nat.le_of_ble_eq_true rfl) (Nat.le_of_ble_eq_true rfl) (sf_X6_reckonReturns hO40 _ (fun _ e => by cases e; exact ⟨g27, (hu40.tm (hu34.tm t1 (by decide)) (by decide))⟩) (fun w42 h44 hr43 hO44 hv44 => ?_))
    have hu44 : un [4, 221, 1104, 21208, 21209] h40 h44 := hv44.mono (by decide)
    subst hr43
    show uRun _ (uCall Mt _) _ 37 (_, [], _, _, _)
    refine ur_ldA rfl rfl ?_
    refine ur_get rfl (hv44.ko (n := 5) hc41 rfl (wid_f (by decide)) (by decide)) rfl ?_
    refine ur_push rfl ?_
    refine ur_binV rfl (fun x45 e46 => ?_)
    have z47 := any_r x35
    have t48 := ti_sub e46 (by omega) (by omega)
    have t49 := hv34.nC (by decide)
    have t50 := hv40.nC (by decide)
    have t51 := hv44.nC (by decide)
    exact ur_ret rfl rfl (hQ _ _ ⟨_, rfl⟩ hO44 (hu34.tr (hu40.tr hu44)) (by omega))
  · have t52 := lt_no c5
    refine ur_push rfl ?_
    exact ur_ret rfl rfl (hQ _ _ ⟨_, rfl⟩ hO0 un.rf (by omega))

set_option maxRecDepth 20000 in
set_option maxHeartbeats 4000000 in
theorem sn_X6_breakComet {d kc ks : Nat} {h0 : aH} {Q : Option aV → aH → Prop} (hO0 : OK h0) (a1 : Int32) (a2 : Int32) (hQ : ∀ r h', (∃ x, r = some (.inl x)) → OK h' → un [4, 221, 1104, 9002, 21207, 21208, 21209] h0 h' → (nC h' ≤ nC h0 + 2) → Q r h') : uCall Mt (d + 6) 64 [(.inr (.inr (some 1))), (.inl a1), (.inl a2)] h0 kc ks Q := by
  have l_m1 : ((-1) : Int32).toInt = -1 := by decide
  have l_0 : ((0) : Int32).toInt = 0 := by decide
  have l_1 : ((1) : Int32).toInt = 1 := by decide
  have l_30 : ((30) : Int32).toInt = 30 := by decide
  have l_360 : ((360) : Int32).toInt = 360 := by decide
  refine uc_ink [some (.inr (.inr (some 1))), some (.inl a1), some (.inl a2), none, none, none, none, none, none] mt_64 (Nat.le_of_ble_eq_true rfl) rfl ?_
  refine ur_ldA rfl rfl ?_
  refine ur_ldI rfl rfl ?_
  obtain ⟨f2, f3, hc1, k4⟩ := ok_1 hO0
  refine ur_inl rfl (rcv_of hc1) (Nat.le_of_ble_eq_true rfl) (Nat.le_of_ble_eq_true rfl) (sf_X6_cometAt hO0 _ (fun w5 hr6 => ?_))
  obtain ⟨o7, rfl, k8⟩ := hr6
  show uRun _ (uCall Mt _) _ 5 (_, [(.inr (.inr o7))], _, _, _)
  refine ur_svAk [some (.inr (.inr (some 1))), some (.inl a1), some (.inl a2), some (.inr (.inr o7)), none, none, none, none, none] rfl rfl ?_
  refine ur_ldA rfl rfl ?_
  cases o7 with
  | none =>
    refine ur_nulN rfl ?_
    refine ur_push rfl ?_
    exact ur_ret rfl rfl (hQ _ _ ⟨_, rfl⟩ hO0 un.rf (by omega))
  | some r9 =>
    refine ur_nulS rfl ?_
    have k10 := k8 _ rfl
    refine ur_ldA rfl rfl ?_
    refine ur_ldI rfl rfl ?_
    obtain ⟨g31, f12, f13, f14, f15, f16, f17, f18, f19, f20, f21, q22, q23, o24, q25, hc11, k26, k27, k28, k29, k30⟩ := hO0.comet k10.2
    refine ur_putV (W := [21207]) (fs' := [(.inl f12), (.inl f13), (.inl f14), (.inl f15), (.inl f16), (.inl f17), (.inl f18), (.inl a2), (.inl f20), (.inl f21), (.inr (.inr (some q22))), (.inr (.inr (some q23))), (.inr (.inr o24)), (.inr (.inr (some q25)))]) rfl hO0 hc11 (Nat.le_of_ble_eq_true rfl) rfl rfl ⟨g31, _, _, _, _, _, _, _, _, _, _, _, _, _, _, rfl, ⟨k26.1, k26.2⟩, ⟨k27.1, k27.2⟩, k28, ⟨k29.1, k29.2⟩, by omega⟩ rfl (Or.inr (by show 1000 + 100 * wid r9 (102, 14) + 7 ∈ _; rw [(wid_c g31)]; decide)) (fun h33 hO33 hv33 d32 hc34 => ?_)
    have hu33 : un [4, 221, 1104, 9002, 21207, 21208, 21209] h0 h33 := hv33.mono (by decide)
    refine ur_ldA rfl rfl ?_
    refine ur_get rfl hc34 rfl ?_
    refine ur_push rfl ?_
    refine ur_binV rfl (fun x35 e36 => ?_)
    have z37 := any_r f17
    refine ur_push rfl ?_
    refine ur_maxV rfl (by show ¬ 9 ≤ 2; decide) (fun x38 t39 e40 => ?_)
    refine ur_svIk [some (.inr (.inr (some 1))), some (.inl a1), some (.inl a2), some (.inr (.inr (some r9))), some (.inl x38), none, none, none, none] rfl rfl ?_
    refine ur_ldA rfl rfl ?_
    refine ur_ldI rfl rfl ?_
    refine ur_inl rfl (rcv_of hc34) (Nat.le_of_ble_eq_true rfl) (Nat.le_of_ble_eq_true rfl) (sf_X2_passOf hO33 g31 (hu33.tm k10.2 (by decide)) _ (fun w41 hr42 => ?_))
    obtain ⟨x43, rfl⟩ := hr42
    show uRun _ (uCall Mt _) _ 34 (_, [(.inl x43)], _, _, _)
    refine ur_svIk [some (.inr (.inr (some 1))), some (.inl a1), some (.inl a2), some (.inr (.inr (some r9))), some (.inl x38), some (.inl x43), none, none, none] rfl rfl ?_
    refine ur_ldA rfl rfl ?_
    refine ur_get rfl hc34 rfl ?_
    refine ur_push rfl ?_
    refine ur_binV rfl (fun x44 e45 => ?_)
    have z46 := any_r f14
    refine ur_push rfl ?_
    refine ur_divV rfl (by decide) (fun x47 e48 => ?_)
    have z49 := any_r x44
    have t50 : 0 ≤ x44.toInt → x47.toInt = x44.toInt % 360 := fun q => ti_rem e48 l_360 (by decide) q
    refine ur_svIk [some (.inr (.inr (some 1))), some (.inl a1), some (.inl a2), some (.inr (.inr (some r9))), some (.inl x38), some (.inl x43), some (.inl x47), none, none] rfl rfl ?_
    refine ur_ldA rfl rfl ?_
    refine ur_get rfl hc34 rfl ?_
    refine ur_push rfl ?_
    refine ur_binV rfl (fun x51 e52 => ?_)
    refine ur_push rfl ?_
    refine ur_binV rfl (fun x53 e54 => ?_)
    have z55 := any_r x51
    refine ur_push rfl ?_
    refine ur_divV rfl (by decide) (fun x56 e57 => ?_)
    have z58 := any_r x53
    have t59 : 0 ≤ x53.toInt → x56.toInt = x53.toInt % 360 := fun q => ti_rem e57 l_360 (by decide) q
    refine ur_svIk [some (.inr (.inr (some 1))), some (.inl a1), some (.inl a2), some (.inr (.inr (some r9))), some (.inl x38), some (.inl x43), some (.inl x47), some (.inl x56), none] rfl rfl ?_
    refine ur_ldA rfl rfl ?_
    refine ur_new rfl (Nat.le_of_ble_eq_true rfl) ?_
    refine ur_dup rfl rfl ?_
    refine ur_ldI rfl rfl ?_
    refine ur_ldA rfl rfl ?_
    refine ur_get rfl (hs_ap hc34) rfl ?_
    refine ur_push rfl ?_
    refine ur_binV rfl (fun x61 e62 => ?_)
    have z63 := any_r f13
    refine ur_ldI rfl rfl ?_
    refine ur_ldA rfl rfl ?_
    refine ur_get rfl (hs_ap hc34) rfl ?_
    refine ur_ldA rfl rfl ?_
    refine ur_get rfl (hs_ap hc34) rfl ?_
    refine ur_ldI rfl rfl ?_
    refine ur_ldI rfl rfl ?_
    refine ur_inl rfl (rcv_of ap_0) (Nat.le_of_ble_eq_true rfl) (Nat.le_of_ble_eq_true rfl) (sn_newComet hO33 _ _ _ _ _ _ _ (fun w64 h67 hr65 hO67 hv67 k66 hn68 => ?_))
    have hu67 : un [4, 221, 1104, 9002, 21207, 21208, 21209] h33 h67 := hv67.mono (by decide)
    subst hr65
    show uRun _ (uCall Mt _) _ 94 (_, [(.inr (.inr (some h33.length))), (.inr (.inr (some 1)))], _, _, _)
    refine ur_inl rfl (rcv_of (hv67.ko (n := 5) ((d32 _ (ne_tg (hO67.fix 1 (by decide) rfl) (hu67.tm (hu33.tm k10.2 (by decide)) (by decide)) (by decide))).trans hc1) rfl (wid_f (by decide)) (by decide))) (Nat.le_of_ble_eq_true rfl) (Nat.le_of_ble_eq_true rfl) (sn_X6_addComet hO67 k66.1 k66.2 (fun w69 h72 hr70 hO72 hv72 hp71 => ?_))
    have hu72 : un [4, 221, 1104, 9002, 21207, 21208, 21209] h67 h72 := hv72.mono (by decide)
    obtain ⟨x73, rfl⟩ := hr70
    show uRun _ (uCall Mt _) _ 97 (_, [(.inl x73)], _, _, _)
    refine ur_svIk [some (.inr (.inr (some 1))), some (.inl a1), some (.inl a2), some (.inr (.inr (some r9))), some (.inl x38), some (.inl x43), some (.inl x47), some (.inl x56), some (.inl x73)] rfl rfl ?_
    refine ur_ldA rfl rfl ?_
    refine ur_new rfl (Nat.le_of_ble_eq_true rfl) ?_
    refine ur_dup rfl rfl ?_
    refine ur_ldI rfl rfl ?_
    refine ur_ldA rfl rfl ?_
    obtain ⟨g95, f76, f77, f78, f79, f80, f81, f82, f83, f84, f85, q86, q87, o88, q89, hc75, k90, k91, k92, k93, k94⟩ := hO72.comet (hu72.tm (hu67.tm (hu33.tm k10.2 (by decide)) (by decide)) (by decide))
    refine ur_get rfl (hs_ap hc75) rfl ?_
    refine ur_push rfl ?_
    refine ur_binV rfl (fun x96 e97 => ?_)
    have z98 := any_r f77
    refine ur_ldI rfl rfl ?_
    refine ur_ldA rfl rfl ?_
    refine ur_get rfl (hs_ap hc75) rfl ?_
    refine ur_ldA rfl rfl ?_
    refine ur_get rfl (hs_ap hc75) rfl ?_
    refine ur_ldI rfl rfl ?_
    refine ur_ldI rfl rfl ?_
    refine ur_inl rfl (rcv_of ap_0) (Nat.le_of_ble_eq_true rfl) (Nat.le_of_ble_eq_true rfl) (sn_newComet hO72 _ _ _ _ _ _ _ (fun w99 h102 hr100 hO102 hv102 k101 hn103 => ?_))
    have hu102 : un [4, 221, 1104, 9002, 21207, 21208, 21209] h72 h102 := hv102.mono (by decide)
    subst hr100
    show uRun _ (uCall Mt _) _ 129 (_, [(.inr (.inr (some h72.length))), (.inr (.inr (some 1)))], _, _, _)
    obtain ⟨f105, f106, hc104, k107⟩ := ok_1 hO102
    refine ur_inl rfl (rcv_of hc104) (Nat.le_of_ble_eq_true rfl) (Nat.le_of_ble_eq_true rfl) (sn_X6_addComet hO102 k101.1 k101.2 (fun w108 h111 hr109 hO111 hv111 hp110 => ?_))
    have hu111 : un [4, 221, 1104, 9002, 21207, 21208, 21209] h102 h111 := hv111.mono (by decide)
    obtain ⟨x112, rfl⟩ := hr109
    show uRun _ (uCall Mt _) _ 132 (_, [(.inl x112)], _, _, _)
    refine ur_pop rfl rfl ?_
    refine ur_ldI rfl rfl ?_
    have t113 := hv33.nC (by decide)
    have t114 := hv72.nC (by decide)
    have t115 := hv111.nC (by decide)
    exact ur_ret rfl rfl (hQ _ _ ⟨_, rfl⟩ hO111 (hu33.tr (hu67.tr (hu72.tr (hu102.tr hu111)))) (by omega))

set_option maxRecDepth 20000 in
set_option maxHeartbeats 4000000 in
theorem sn_X11_comet {d kc ks : Nat} {h0 : aH} {Q : Option aV → aH → Prop} (hO0 : OK h0) (a1 : Int32) (a2 : Int32) (a3 : Int32) (a4 : Int32) (hQ : ∀ r h', (∃ x, r = some (.inl x)) → OK h' → un [4, 221, 1104, 9002, 21208, 21209] h0 h' → (nC h' ≤ nC h0 + 1) → Q r h') : uCall Mt (d + 6) 125 [(.inr (.inr (some 0))), (.inl a1), (.inl a2), (.inl a3), (.inl a4)] h0 kc ks Q := by
  have l_m3 : ((-3) : Int32).toInt = -3 := by decide
  have l_m1 : ((-1) : Int32).toInt = -1 := by decide
  have l_0 : ((0) : Int32).toInt = 0 := by decide
  have l_1 : ((1) : Int32).toInt = 1 := by decide
  have l_5 : ((5) : Int32).toInt = 5 := by decide
  have l_9 : ((9) : Int32).toInt = 9 := by decide
  have l_12 : ((12) : Int32).toInt = 12 := by decide
  have l_100 : ((100) : Int32).toInt = 100 := by decide
  have l_200 : ((200) : Int32).toInt = 200 := by decide
  have l_360 : ((360) : Int32).toInt = 360 := by decide
  have l_40000 : ((40000) : Int32).toInt = 40000 := by decide
  have l_100000 : ((100000) : Int32).toInt = 100000 := by decide
  have l_199999 : ((199999) : Int32).toInt = 199999 := by decide
  have l_999999 : ((999999) : Int32).toInt = 999999 := by decide
  refine uc_ink [some (.inr (.inr (some 0))), some (.inl a1), some (.inl a2), some (.inl a3), some (.inl a4), none, none, none] mt_125 (Nat.le_of_ble_eq_true rfl) rfl ?_
  refine ur_ldI rfl rfl ?_
  refine ur_push rfl ?_
  refine ur_push rfl ?_
  refine ur_callv rfl rfl (Nat.le_of_ble_eq_true rfl) (Nat.le_of_ble_eq_true rfl) rfl (sp_within _ _ _ _ _) ?_
  refine ur_eqB rfl (fun c3 => ?_) (fun c3 => ?_)
  · have t4 := wi_noL c3 l_0 l_999999
    refine ur_push rfl ?_
    exact ur_ret rfl rfl (hQ _ _ ⟨_, rfl⟩ hO0 un.rf (by omega))
  · have t5 := wi_toL c3 l_0 l_999999
    refine ur_ldI rfl rfl ?_
    refine ur_push rfl ?_
    refine ur_push rfl ?_
    refine ur_callv rfl rfl (Nat.le_of_ble_eq_true rfl) (Nat.le_of_ble_eq_true rfl) rfl (sp_within _ _ _ _ _) ?_
    refine ur_neB rfl (fun c8 => ?_) (fun c8 => ?_)
    · have t9 := wi_toL c8 l_200 l_40000
      refine ur_ldI rfl rfl ?_
      refine ur_push rfl ?_
      refine ur_push rfl ?_
      refine ur_callv rfl rfl (Nat.le_of_ble_eq_true rfl) (Nat.le_of_ble_eq_true rfl) rfl (sp_within _ _ _ _ _) ?_
      refine ur_eqB rfl (fun c12 => ?_) (fun c12 => ?_)
      · have t13 := wi_noL c12 l_0 l_199999
        refine ur_push rfl ?_
        exact ur_ret rfl rfl (hQ _ _ ⟨_, rfl⟩ hO0 un.rf (by omega))
      · have t14 := wi_toL c12 l_0 l_199999
        refine ur_ldI rfl rfl ?_
        refine ur_push rfl ?_
        refine ur_push rfl ?_
        refine ur_callv rfl rfl (Nat.le_of_ble_eq_true rfl) (Nat.le_of_ble_eq_true rfl) rfl (sp_within _ _ _ _ _) ?_
        refine ur_neB rfl (fun c17 => ?_) (fun c17 => ?_)
        · have t18 := wi_toL c17 l_0 l_9
          refine ur_ldI rfl rfl ?_
          refine ur_push rfl ?_
          refine ur_divV rfl (by decide) (fun x19 e20 => ?_)
          have z21 := any_r a3
          have t22 := ti_rem e20 l_100000 (by decide) (by omega)
          refine ur_push rfl ?_
          refine ur_divV rfl (by decide) (fun x23 e24 => ?_)
          have z25 := any_r x19
          have t26 := ti_div e24 l_100 (by decide) (by omega)
          refine ur_svIk [some (.inr (.inr (some 0))), some (.inl a1), some (.inl a2), some (.inl a3), some (.inl a4), some (.inl x23), none, none] rfl rfl ?_
          refine ur_ldI rfl rfl ?_
          refine ur_push rfl ?_
          refine ur_divV rfl (by decide) (fun x27 e28 => ?_)
          have t29 := ti_rem e28 l_100 (by decide) (by omega)
          refine ur_svIk [some (.inr (.inr (some 0))), some (.inl a1), some (.inl a2), some (.inl a3), some (.inl a4), some (.inl x23), some (.inl x27), none] rfl rfl ?_
          refine ur_ldI rfl rfl ?_
          refine ur_push rfl ?_
          refine ur_if2 rfl (fun c30 => ?_) (fun c30 => ?_)
          · have t31 := le_to c30
            refine ur_push rfl ?_
            exact ur_ret rfl rfl (hQ _ _ ⟨_, rfl⟩ hO0 un.rf (by omega))
          · have t32 := le_no c30
            refine ur_ldI rfl rfl ?_
            refine ur_push rfl ?_
            refine ur_if2 rfl (fun c33 => ?_) (fun c33 => ?_)
            · have t34 := le_to c33
              refine ur_ldA rfl rfl ?_
              obtain ⟨hc35, k36⟩ := ok_0 hO0
              refine ur_get rfl hc35 rfl ?_
              obtain ⟨f38, f39, hc37, k40⟩ := ok_1 hO0
              refine ur_get rfl hc37 rfl ?_
              refine ur_push rfl ?_
              refine ur_if2 rfl (fun c41 => ?_) (fun c41 => ?_)
              · have t42 := lt_to c41
                refine ur_ldI rfl rfl ?_
                refine ur_push rfl ?_
                refine ur_if2 rfl (fun c43 => ?_) (fun c43 => ?_)
                · have t44 := lt_to c43
                  refine ur_push rfl ?_
                  refine ur_svIk [some (.inr (.inr (some 0))), some (.inl a1), some (.inl a2), some (.inl a3), some (.inl a4), some (.inl x23), some (.inl x27), some (.inl 1)] rfl rfl ?_
                  refine ur_ldA rfl rfl ?_
                  refine ur_get rfl hc35 rfl ?_
                  refine ur_new rfl (Nat.le_of_ble_eq_true rfl) ?_
                  refine ur_dup rfl rfl ?_
                  refine ur_ldI rfl rfl ?_
                  refine ur_ldI rfl rfl ?_
                  refine ur_ldI rfl rfl ?_
                  refine ur_ldI rfl rfl ?_
                  refine ur_ldI rfl rfl ?_
                  refine ur_ldI rfl rfl ?_
                  refine ur_push rfl ?_
                  refine ur_inl rfl (rcv_of ap_0) (Nat.le_of_ble_eq_true rfl) (Nat.le_of_ble_eq_true rfl) (sn_newComet hO0 _ _ _ _ _ _ _ (fun w46 h49 hr47 hO49 hv49 k48 hn50 => ?_))
                  have hu49 : un [4, 221, 1104, 9002, 21208, 21209] h0 h49 := hv49.mono (by decide)
                  subst hr47
                  show uRun _ (uCall Mt _) _ 128 (_, [(.inr (.inr (some h0.length))), (.inr (.inr (some 1)))], _, _, _)
                  refine ur_inl rfl (rcv_of (hv49.ko (n := 5) hc37 rfl (wid_f (by decide)) (by decide))) (Nat.le_of_ble_eq_true rfl) (Nat.le_of_ble_eq_true rfl) (sn_X6_addComet hO49 k48.1 k48.2 (fun w51 h54 hr52 hO54 hv54 hp53 => ?_))
                  have hu54 : un [4, 221, 1104, 9002, 21208, 21209] h49 h54 := hv54.mono (by decide)
                  obtain ⟨x55, rfl⟩ := hr52
                  show uRun _ (uCall Mt _) _ 131 (_, [(.inl x55)], _, _, _)
                  have t56 := hv54.nC (by decide)
                  exact ur_ret rfl rfl (hQ _ _ ⟨_, rfl⟩ hO54 (hu49.tr hu54) (by omega))
                · have t57 := lt_no c43
                  refine ur_push rfl ?_
                  refine ur_go rfl ?_
                  refine ur_svIk [some (.inr (.inr (some 0))), some (.inl a1), some (.inl a2), some (.inl a3), some (.inl a4), some (.inl x23), some (.inl x27), some (.inl (-1))] rfl rfl ?_
                  refine ur_ldA rfl rfl ?_
                  refine ur_get rfl hc35 rfl ?_
                  refine ur_new rfl (Nat.le_of_ble_eq_true rfl) ?_
                  refine ur_dup rfl rfl ?_
                  refine ur_ldI rfl rfl ?_
                  refine ur_ldI rfl rfl ?_
                  refine ur_ldI rfl rfl ?_
                  refine ur_ldI rfl rfl ?_
                  refine ur_ldI rfl rfl ?_
                  refine ur_ldI rfl rfl ?_
                  refine ur_push rfl ?_
                  refine ur_inl rfl (rcv_of ap_0) (Nat.le_of_ble_eq_true rfl) (Nat.le_of_ble_eq_true rfl) (sn_newComet hO0 _ _ _ _ _ _ _ (fun w59 h62 hr60 hO62 hv62 k61 hn63 => ?_))
                  have hu62 : un [4, 221, 1104, 9002, 21208, 21209] h0 h62 := hv62.mono (by decide)
                  subst hr60
                  show uRun _ (uCall Mt _) _ 128 (_, [(.inr (.inr (some h0.length))), (.inr (.inr (some 1)))], _, _, _)
                  refine ur_inl rfl (rcv_of (hv62.ko (n := 5) hc37 rfl (wid_f (by decide)) (by decide))) (Nat.le_of_ble_eq_true rfl) (Nat.le_of_ble_eq_true rfl) (sn_X6_addComet hO62 k61.1 k61.2 (fun w64 h67 hr65 hO67 hv67 hp66 => ?_))
                  have hu67 : un [4, 221, 1104, 9002, 21208, 21209] h62 h67 := hv67.mono (by decide)
                  obtain ⟨x68, rfl⟩ := hr65
                  show uRun _ (uCall Mt _) _ 131 (_, [(.inl x68)], _, _, _)
                  have t69 := hv67.nC (by decide)
                  exact ur_ret rfl rfl (hQ _ _ ⟨_, rfl⟩ hO67 (hu62.tr hu67) (by omega))
              · have t70 := lt_no c41
                refine ur_push rfl ?_
                exact ur_ret rfl rfl (hQ _ _ ⟨_, rfl⟩ hO0 un.rf (by omega))
            · have t71 := le_no c33
              refine ur_push rfl ?_
              exact ur_ret rfl rfl (hQ _ _ ⟨_, rfl⟩ hO0 un.rf (by omega))
        · have t72 := wi_noL c17 l_0 l_9
          refine ur_push rfl ?_
          exact ur_ret rfl rfl (hQ _ _ ⟨_, rfl⟩ hO0 un.rf (by omega))
    · have t73 := wi_noL c8 l_200 l_40000
      refine ur_push rfl ?_
      exact ur_ret rfl rfl (hQ _ _ ⟨_, rfl⟩ hO0 un.rf (by omega))

set_option maxRecDepth 20000 in
set_option maxHeartbeats 4000000 in
theorem sn_X11_broke {d kc ks : Nat} {h0 : aH} {Q : Option aV → aH → Prop} (hO0 : OK h0) (a1 : Int32) (a2 : Int32) (hQ : ∀ r h', (∃ x, r = some (.inl x)) → OK h' → un [4, 221, 1104, 9002, 21207, 21208, 21209] h0 h' → (nC h' ≤ nC h0 + 2) → Q r h') : uCall Mt (d + 7) 154 [(.inr (.inr (some 0))), (.inl a1), (.inl a2)] h0 kc ks Q := by
  have l_m2000000000 : ((-2000000000) : Int32).toInt = -2000000000 := by decide
  have l_m60 : ((-60) : Int32).toInt = -60 := by decide
  have l_m5 : ((-5) : Int32).toInt = -5 := by decide
  have l_m3 : ((-3) : Int32).toInt = -3 := by decide
  have l_m2 : ((-2) : Int32).toInt = -2 := by decide
  have l_m1 : ((-1) : Int32).toInt = -1 := by decide
  have l_2 : ((2) : Int32).toInt = 2 := by decide
  have l_12 : ((12) : Int32).toInt = 12 := by decide
  have l_60 : ((60) : Int32).toInt = 60 := by decide
  refine uc_ink [some (.inr (.inr (some 0))), some (.inl a1), some (.inl a2), none] mt_154 (Nat.le_of_ble_eq_true rfl) rfl ?_
  refine ur_ldA rfl rfl ?_
  obtain ⟨hc1, k2⟩ := ok_0 hO0
  refine ur_get rfl hc1 rfl ?_
  refine ur_ldI rfl rfl ?_
  obtain ⟨f4, f5, hc3, k6⟩ := ok_1 hO0
  refine ur_inl rfl (rcv_of hc3) (Nat.le_of_ble_eq_true rfl) (Nat.le_of_ble_eq_true rfl) (sf_X6_cometAt hO0 _ (fun w7 hr8 => ?_))
  obtain ⟨o9, rfl, k10⟩ := hr8
  show uRun _ (uCall Mt _) _ 8 (_, [(.inr (.inr o9))], _, _, _)
  refine ur_svAk [some (.inr (.inr (some 0))), some (.inl a1), some (.inl a2), some (.inr (.inr o9))] rfl rfl ?_
  refine ur_ldA rfl rfl ?_
  cases o9 with
  | none =>
    refine ur_nulN rfl ?_
    refine ur_push rfl ?_
    exact ur_ret rfl rfl (hQ _ _ ⟨_, rfl⟩ hO0 un.rf (by omega))
  | some r11 =>
    refine ur_nulS rfl ?_
    have k12 := k10 _ rfl
    refine ur_ldI rfl rfl ?_
    refine ur_callv rfl rfl (Nat.le_of_ble_eq_true rfl) (Nat.le_of_ble_eq_true rfl) rfl (sp_isRet _ _) ?_
    refine ur_neB rfl (fun c15 => ?_) (fun c15 => ?_)
    · have t16 := wi_toL c15 l_m60 l_60
      refine ur_ldA rfl rfl ?_
      refine ur_ldI rfl rfl ?_
      obtain ⟨g37, f18, f19, f20, f21, f22, f23, f24, f25, f26, f27, q28, q29, o30, q31, hc17, k32, k33, k34, k35, k36⟩ := hO0.comet k12.2
      refine ur_inl rfl (rcv_of hc17) (Nat.le_of_ble_eq_true rfl) (Nat.le_of_ble_eq_true rfl) (sf_X2_hasReturn hO0 g37 k12.2 _ (fun w38 hr39 => ?_))
      obtain ⟨b40, rfl⟩ := hr39
      show uRun _ (uCall Mt _) _ 27 (_, [(.inl (bi b40))], _, _, _)
      refine ur_neB rfl (fun c41 => ?_) (fun c41 => ?_)
      · refine ur_ldA rfl rfl ?_
        refine ur_get rfl hc17 rfl ?_
        refine ur_push rfl ?_
        refine ur_if2 rfl (fun c42 => ?_) (fun c42 => ?_)
        · have t43 := eq_to c42
          refine ur_ldA rfl rfl ?_
          refine ur_get rfl hc1 rfl ?_
          refine ur_get rfl hc3 rfl ?_
          refine ur_push rfl ?_
          refine ur_binV rfl (fun x44 e45 => ?_)
          have z46 := any_r f5
          have t47 := ti_add e45 (by omega) (by omega)
          refine ur_push rfl ?_
          refine ur_if2 rfl (fun c48 => ?_) (fun c48 => ?_)
          · have t49 := le_to c48
            refine ur_ldA rfl rfl ?_
            refine ur_get rfl hc1 rfl ?_
            refine ur_ldI rfl rfl ?_
            refine ur_ldI rfl rfl ?_
            refine ur_inl rfl (rcv_of hc3) (Nat.le_of_ble_eq_true rfl) (Nat.le_of_ble_eq_true rfl) (sn_X6_breakComet hO0 _ _ (fun w50 h53 hr51 hO53 hv53 hp52 => ?_))
            have hu53 := hv53
            obtain ⟨x54, rfl⟩ := hr51
            show uRun _ (uCall Mt _) _ 71 (_, [(.inl x54)], _, _, _)
            exact ur_ret rfl rfl (hQ _ _ ⟨_, rfl⟩ hO53 hu53 (by omega))
          · have t55 := le_no c48
            refine ur_push rfl ?_
            exact ur_ret rfl rfl (hQ _ _ ⟨_, rfl⟩ hO0 un.rf (by omega))
        · have t56 := eq_no c42
          refine ur_push rfl ?_
          exact ur_ret rfl rfl (hQ _ _ ⟨_, rfl⟩ hO0 un.rf (by omega))
      · refine ur_push rfl ?_
        exact ur_ret rfl rfl (hQ _ _ ⟨_, rfl⟩ hO0 un.rf (by omega))
    · have t57 := wi_noL c15 l_m60 l_60
      refine ur_push rfl ?_
      exact ur_ret rfl rfl (hQ _ _ ⟨_, rfl⟩ hO0 un.rf (by omega))

end CNB
