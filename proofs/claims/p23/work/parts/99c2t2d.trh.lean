/-! THE READER OF THE REFERENCE, exactly; printed by program but for its head -/
section TRHd
set_option maxRecDepth 20000 in
set_option maxHeartbeats 4000000 in
theorem st_X12_op_s {d kc ks : Nat} {h0 : aH} {Q : Option aV → aH → Prop} {t : Int → Int} (n : Nat) (rec : ∀ {kc ks : Nat} {h0 : aH} {Q : Option aV → aH → Prop}, OK h0 → (tS h0 t) → (0 ≤ fI h0 20 ∧ fI h0 20 ≤ fI h0 19 ∧ fI h0 21 < 0 ∧ fI h0 23 ≤ fI h0 20) → (0 ≤ fI h0 22 ∧ fI h0 22 ≤ 6 ∧ 6 ≤ fI h0 22 + (n : Int)) → (∀ r h', (r = none) → OK h' → un [83, 84] h0 h' → (fI h0 20 ≤ fI h' 20 ∧ fI h' 20 ≤ fI h' 19 ∧ fI h' 19 = fI h0 19) → (fI h0 23 ≤ fI h' 23 ∧ fI h' 23 - fI h' 20 ≤ fI h0 23 - fI h0 20 + 1) → (fI h' 21 < 0 → fI h' 23 - fI h' 20 ≤ fI h0 23 - fI h0 20 ∧ fI h' 22 = fI h0 22 ∧ fI h0 23 < fI h' 23) → (kp h0 h' (iL h0)) → (fI h' 21 < 0 → bk h' (iL h0) (iL h')) → (ROt t 0 (fI h0 22) (fI h0 20) (tkR h0) (fI h' 21) (fI h' 22) (fI h' 20) (tkR h')) → (fI h' 21 ≤ fI h' 19) → Q r h') → uCall Mt (d + 4) 219 [(.inr (.inr (some 69)))] h0 kc ks Q) (rec9 : ∀ {kc ks : Nat} {h0 : aH} {Q : Option aV → aH → Prop}, OK h0 → (tS h0 t) → (0 ≤ fI h0 20 ∧ fI h0 20 ≤ fI h0 19 ∧ fI h0 21 < 0 ∧ fI h0 23 ≤ fI h0 20) → (0 ≤ fI h0 22 ∧ fI h0 22 ≤ 6 ∧ 6 ≤ fI h0 22 + (n : Int)) → (∀ r h', (r = none) → OK h' → un [83, 84] h0 h' → (fI h0 20 ≤ fI h' 20 ∧ fI h' 20 ≤ fI h' 19 ∧ fI h' 19 = fI h0 19) → (fI h0 23 ≤ fI h' 23 ∧ fI h' 23 - fI h' 20 ≤ fI h0 23 - fI h0 20 + 1) → (fI h' 21 < 0 → fI h' 23 - fI h' 20 ≤ fI h0 23 - fI h0 20 ∧ fI h' 22 = fI h0 22 ∧ fI h0 23 < fI h' 23) → (kp h0 h' (iL h0)) → (fI h' 21 < 0 → bk h' (iL h0) (iL h')) → (ROt t 0 (fI h0 22) (fI h0 20) (tkR h0) (fI h' 21) (fI h' 22) (fI h' 20) (tkR h')) → (fI h' 21 ≤ fI h' 19) → Q r h') → uCall Mt (d + 9) 219 [(.inr (.inr (some 69)))] h0 kc ks Q) (hO0 : OK h0)  (pre0 : tS h0 t) (pre1 : 0 ≤ fI h0 20 ∧ fI h0 20 ≤ fI h0 19 ∧ fI h0 21 < 0 ∧ fI h0 23 ≤ fI h0 20) (pre2 : 0 ≤ fI h0 22 ∧ fI h0 22 ≤ 6 ∧ 6 ≤ fI h0 22 + ((n + 1 : Nat) : Int)) (hQ : ∀ r h', (r = none) → OK h' → un [83, 84] h0 h' → (fI h0 20 ≤ fI h' 20 ∧ fI h' 20 ≤ fI h' 19 ∧ fI h' 19 = fI h0 19) → (fI h0 23 ≤ fI h' 23 ∧ fI h' 23 - fI h' 20 ≤ fI h0 23 - fI h0 20 + 1) → (fI h' 21 < 0 → fI h' 23 - fI h' 20 ≤ fI h0 23 - fI h0 20 ∧ fI h' 22 = fI h0 22 ∧ fI h0 23 < fI h' 23) → (kp h0 h' (iL h0)) → (fI h' 21 < 0 → bk h' (iL h0) (iL h')) → (ROt t 0 (fI h0 22) (fI h0 20) (tkR h0) (fI h' 21) (fI h' 22) (fI h' 20) (tkR h')) → (fI h' 21 ≤ fI h' 19) → Q r h') : uCall Mt (d + 10) 219 [(.inr (.inr (some 69)))] h0 kc ks Q := by
  have l_0 : ((0) : Int32).toInt = 0 := by decide
  have l_1 : ((1) : Int32).toInt = 1 := by decide
  have l_2 : ((2) : Int32).toInt = 2 := by decide
  have l_3 : ((3) : Int32).toInt = 3 := by decide
  have l_4 : ((4) : Int32).toInt = 4 := by decide
  have l_33 : ((33) : Int32).toInt = 33 := by decide
  have l_40 : ((40) : Int32).toInt = 40 := by decide
  have l_41 : ((41) : Int32).toInt = 41 := by decide
  have l_45 : ((45) : Int32).toInt = 45 := by decide
  refine uc_ink [some (.inr (.inr (some 69))), none] mt_219 (Nat.le_of_ble_eq_true rfl) rfl ?_
  obtain ⟨fs1, hc2⟩ := hO0.mod
  obtain ⟨f3, p4, t5⟩ := mf_19 hO0 hc2
  have t6 := fI_of hc2 p4
  obtain ⟨f7, p8⟩ := mf_20 hO0 hc2
  have t9 := fI_of hc2 p8
  obtain ⟨f10, p11⟩ := mf_21 hO0 hc2
  have t12 := fI_of hc2 p11
  obtain ⟨f13, p14⟩ := mf_22 hO0 hc2
  have t15 := fI_of hc2 p14
  obtain ⟨f16, p17, t18⟩ := mf_23 hO0 hc2
  have t19 := fI_of hc2 p17
  refine ur_ldA rfl rfl ?_
  refine ur_inl rfl (rcv_of hc2) (Nat.le_of_ble_eq_true rfl) (Nat.le_of_ble_eq_true rfl) (st_X12_look hO0 pre0 (by omega) (fun w20 hr21 => ?_))
  obtain ⟨x22, rfl, t23⟩ := hr21
  show uRun _ (uCall Mt _) _ 4 (_, [(.inl x22)], _, _, _)
  have t24 := tS.nm pre0 t23.1
  refine ur_svIk [some (.inr (.inr (some 69))), some (.inl x22)] rfl rfl ?_
  refine ur_ldI rfl rfl ?_
  refine ur_inl rfl rfl (Nat.le_of_ble_eq_true rfl) (Nat.le_of_ble_eq_true rfl) (st_X12_nameOf hO0 _ (fun w25 hr26 => ?_))
  obtain ⟨x27, rfl, f28⟩ := hr26
  show uRun _ (uCall Mt _) _ 9 (_, [(.inl x27)], _, _, _)
  have t29 := f28
  refine ur_if1 rfl (fun c30 => ?_) (fun c30 => ?_)
  · have t31 := lt_to c30
    refine ur_ldI rfl rfl ?_
    refine ur_push rfl ?_
    refine ur_if2 rfl (fun c32 => ?_) (fun c32 => ?_)
    · have t33 := eq_to c32
      refine ur_ldA rfl rfl ?_
      refine ur_inl rfl (rcv_of hc2) (Nat.le_of_ble_eq_true rfl) (Nat.le_of_ble_eq_true rfl) (st_X12_opens hO0 (by omega) (by omega) (fun w34 h37 hr35 hO37 hv37 hp36 => ?_))
      have hu37 : un [83, 84] h0 h37 := hv37.mono (by decide)
      obtain ⟨b38, rfl, t39, t40⟩ := hr35
      show uRun _ (uCall Mt _) _ 50 (_, [(.inl (bi b38))], _, _, _)
      refine ur_neB rfl (fun c41 => ?_) (fun c41 => ?_)
      · have t42 := t39 c41
        clear t39 t40
        refine ur_ldA rfl rfl ?_
        obtain ⟨fs43, hc44⟩ := hO37.mod
        obtain ⟨f45, p46, t47⟩ := mf_19 hO37 hc44
        have t48 := fI_of hc44 p46
        obtain ⟨f49, p50⟩ := mf_20 hO37 hc44
        have t51 := fI_of hc44 p50
        obtain ⟨f52, p53⟩ := mf_21 hO37 hc44
        have t54 := fI_of hc44 p53
        obtain ⟨f55, p56⟩ := mf_22 hO37 hc44
        have t57 := fI_of hc44 p56
        obtain ⟨f58, p59, t60⟩ := mf_23 hO37 hc44
        have t61 := fI_of hc44 p59
        have t62 := fI_keep (k := 19) hO0 hO37 hv37 rfl (by decide)
        refine ur_inl rfl (rcv_of hc44) (Nat.le_of_ble_eq_true rfl) (Nat.le_of_ble_eq_true rfl) (rec9 hO37 (pre0.un hO0 hO37 hv37 (by decide) (by decide)) (by omega) (by omega) (fun w63 h72 hr64 hO72 hv72 hp65 hp66 hp67 hp68 hp69 hp70 hp71 => ?_))
        have hu72 := hv72
        subst hr64
        show uRun _ (uCall Mt _) _ 58 (_, [], _, _, _)
        refine ur_ldA rfl rfl ?_
        refine ur_dup rfl rfl ?_
        obtain ⟨fs73, hc74⟩ := hO72.mod
        obtain ⟨f75, p76⟩ := mf_22 hO72 hc74
        have t77 := fI_of hc74 p76
        refine ur_get rfl hc74 p76 ?_
        refine ur_push rfl ?_
        refine ur_binV rfl (fun x78 e79 => ?_)
        have z80 := any_r f75
        have t81 : 0 ≤ f75.toInt → x78.toInt = f75.toInt - (1 : Int32).toInt := fun q => by have := any_r f75; exact ti_sub e79 (by omega) (by omega)
        obtain ⟨f82, p83, t84⟩ := mf_19 hO72 hc74
        have t85 := fI_of hc74 p83
        obtain ⟨f86, p87⟩ := mf_20 hO72 hc74
        have t88 := fI_of hc74 p87
        obtain ⟨f89, p90⟩ := mf_21 hO72 hc74
        have t91 := fI_of hc74 p90
        obtain ⟨f92, p93, t94⟩ := mf_23 hO72 hc74
        have t95 := fI_of hc74 p93
        refine ur_putM (W := []) rfl hO72 hc74 (by decide) rfl (ms_22 (hO72.msh hc74)) (Or.inl rfl) (fun h97 hO97 hv97 d96 hc98 => ?_)
        have hu97 : un [83, 84] h72 h97 := hv97.mono (by decide)
        have t99 := fI_of hc98 (gs_ne p83 (by decide))
        have t100 := fI_of hc98 (gs_ne p87 (by decide))
        have t101 := fI_of hc98 (gs_ne p90 (by decide))
        have t102 := fI_of hc98 (gs_eq p76)
        have t103 := fI_of hc98 (gs_ne p93 (by decide))
        refine ur_ldA rfl rfl ?_
        refine ur_ldI rfl rfl ?_
        refine ur_push rfl ?_
        refine ur_if2 rfl (fun c104 => ?_) (fun c104 => ?_)
        · have t105 := ne_to c104
          exfalso
          omega
        · have t106 := ne_no c104
          refine ur_push rfl ?_
          refine ur_go rfl ?_
          refine ur_push rfl ?_
          have t107 := fI_keep (k := 19) hO37 hO72 hv72 rfl (by decide)
          refine ur_inl rfl (rcv_of hc98) (Nat.le_of_ble_eq_true rfl) (Nat.le_of_ble_eq_true rfl) (sf_X12_lay hO97 _ (by show 1 ≤ (3 : Int32).toInt ∧ (3 : Int32).toInt ≤ 124; omega) _ (by omega) (fun w108 h113 hr109 hO113 hv113 hp110 hp111 hp112 => ?_))
          have hu113 := hv113
          subst hr109
          show uRun _ (uCall Mt _) _ 84 (_, [], _, _, _)
          refine ur_go rfl ?_
          obtain ⟨fs114, hc115⟩ := hO113.mod
          obtain ⟨f116, p117, t118⟩ := mf_19 hO113 hc115
          have t119 := fI_of hc115 p117
          obtain ⟨f120, p121⟩ := mf_20 hO113 hc115
          have t122 := fI_of hc115 p121
          obtain ⟨f123, p124⟩ := mf_21 hO113 hc115
          have t125 := fI_of hc115 p124
          obtain ⟨f126, p127⟩ := mf_22 hO113 hc115
          have t128 := fI_of hc115 p127
          obtain ⟨f129, p130, t131⟩ := mf_23 hO113 hc115
          have t132 := fI_of hc115 p130
          have t133 := fI_keep (k := 19) hO97 hO113 hv113 rfl (by decide)
          exact ur_ret0 rfl (hQ _ _ rfl hO113 (hu37.tr (hu72.tr (hu97.tr hu113))) (by omega) (by omega) (by omega) (kp.tr (n := (iL h0)) (kp.tr (n := (iL h0)) (kp.tr (n := (iL h0)) (kp.tr (n := (iL h0)) kp.rf (kp_un hO0 hv37 (by decide) (by decide) (iL h0)) (Nat.le_refl _)) hp68 (by unfold iL; omega)) (kp_un hO72 hv97 (by decide) (by decide) (iL h0)) (Nat.le_refl _)) hp111 (by unfold iL; omega)) (fun q => (bk_cast (bk_un (hp69 (by omega)) (kp.tr (n := (iL h72)) (kp.tr (n := (iL h72)) kp.rf (kp_un hO72 hv97 (by decide) (by decide) (iL h72)) (Nat.le_refl _)) hp111 (by unfold iL; omega)) hp112 (by unfold iL; omega) (by omega) rfl (by unfold iL; omega)) (by unfold iL; omega) (by unfold iL; omega))) (ROt.un (c := 33) (s := 3) (by omega) (tS.cl pre0 t23.1 (c := 33) (by omega) (by decide)) (by decide) hp70 (by omega) (by omega) (tkR_kp (kp_un hO0 hv37 (by decide) (by decide) (iL h0)) (by omega)) (tkR_2 (tkR_lay hp111 hp112 (by omega) (by omega)) (tkR_kp (kp_un hO72 hv97 (by decide) (by decide) (iL h72)) (by omega)) l_3) rfl l_0 (by omega) (fun q => by omega)) (by omega))
      · have t134 := t40 c41
        clear t39 t40
        obtain ⟨fs135, hc136⟩ := hO37.mod
        obtain ⟨f137, p138, t139⟩ := mf_19 hO37 hc136
        have t140 := fI_of hc136 p138
        obtain ⟨f141, p142⟩ := mf_20 hO37 hc136
        have t143 := fI_of hc136 p142
        obtain ⟨f144, p145⟩ := mf_21 hO37 hc136
        have t146 := fI_of hc136 p145
        obtain ⟨f147, p148⟩ := mf_22 hO37 hc136
        have t149 := fI_of hc136 p148
        obtain ⟨f150, p151, t152⟩ := mf_23 hO37 hc136
        have t153 := fI_of hc136 p151
        have t154 := fI_keep (k := 19) hO0 hO37 hv37 rfl (by decide)
        have t155 := tS.c pre0 t23.1 (by omega)
        exact ur_ret0 rfl (hQ _ _ rfl hO37 hu37 (by omega) (by omega) (by omega) (kp.tr (n := (iL h0)) kp.rf (kp_un hO0 hv37 (by decide) (by decide) (iL h0)) (Nat.le_refl _)) (fun q => absurd q (by omega)) (ROt.no (by omega) (by omega) (by omega) (by omega) (by omega)) (by omega))
    · have t156 := eq_no c32
      refine ur_ldI rfl rfl ?_
      refine ur_push rfl ?_
      refine ur_if2 rfl (fun c157 => ?_) (fun c157 => ?_)
      · have t158 := ne_to c157
        refine ur_ldI rfl rfl ?_
        refine ur_push rfl ?_
        refine ur_if2 rfl (fun c159 => ?_) (fun c159 => ?_)
        · have t160 := ne_to c159
          have t161 : t (fI h0 20) ≠ 33 ∧ t (fI h0 20) ≠ 45 ∧ t (fI h0 20) ≠ 40 := ⟨sg_ne t23.1 (by omega) (by decide), sg_ne t23.1 (by omega) (by decide), sg_ne t23.1 (by omega) (by decide)⟩
          refine ur_ldA rfl rfl ?_
          refine ur_inl rfl (rcv_of hc2) (Nat.le_of_ble_eq_true rfl) (Nat.le_of_ble_eq_true rfl) (st_X12_number hO0 pre0 (by omega) (by omega) (by omega) (fun w162 h171 hr163 hO171 hv171 hp164 hp165 hp166 hp167 hp168 hp169 hp170 => ?_))
          have hu171 := hv171
          subst hr163
          show uRun _ (uCall Mt _) _ 154 (_, [], _, _, _)
          obtain ⟨fs172, hc173⟩ := hO171.mod
          obtain ⟨f174, p175, t176⟩ := mf_19 hO171 hc173
          have t177 := fI_of hc173 p175
          obtain ⟨f178, p179⟩ := mf_20 hO171 hc173
          have t180 := fI_of hc173 p179
          obtain ⟨f181, p182⟩ := mf_21 hO171 hc173
          have t183 := fI_of hc173 p182
          obtain ⟨f184, p185⟩ := mf_22 hO171 hc173
          have t186 := fI_of hc173 p185
          obtain ⟨f187, p188, t189⟩ := mf_23 hO171 hc173
          have t190 := fI_of hc173 p188
          have t191 := fI_keep (k := 19) hO0 hO171 hv171 rfl (by decide)
          exact ur_ret0 rfl (hQ _ _ rfl hO171 hu171 (by omega) (by omega) (by omega) (kp.tr (n := (iL h0)) kp.rf hp167 (by unfold iL; omega)) (fun q => (bk_cast (hp168 (by omega)) (by unfold iL; omega) (by unfold iL; omega))) hp169 (by omega))
        · have t192 := ne_no c159
          refine ur_ldA rfl rfl ?_
          refine ur_inl rfl (rcv_of hc2) (Nat.le_of_ble_eq_true rfl) (Nat.le_of_ble_eq_true rfl) (st_X12_opens hO0 (by omega) (by omega) (fun w193 h196 hr194 hO196 hv196 hp195 => ?_))
          have hu196 : un [83, 84] h0 h196 := hv196.mono (by decide)
          obtain ⟨b197, rfl, t198, t199⟩ := hr194
          show uRun _ (uCall Mt _) _ 97 (_, [(.inl (bi b197))], _, _, _)
          refine ur_neB rfl (fun c200 => ?_) (fun c200 => ?_)
          · have t201 := t198 c200
            clear t198 t199
            refine ur_ldA rfl rfl ?_
            obtain ⟨fs202, hc203⟩ := hO196.mod
            obtain ⟨f204, p205, t206⟩ := mf_19 hO196 hc203
            have t207 := fI_of hc203 p205
            obtain ⟨f208, p209⟩ := mf_20 hO196 hc203
            have t210 := fI_of hc203 p209
            obtain ⟨f211, p212⟩ := mf_21 hO196 hc203
            have t213 := fI_of hc203 p212
            obtain ⟨f214, p215⟩ := mf_22 hO196 hc203
            have t216 := fI_of hc203 p215
            obtain ⟨f217, p218, t219⟩ := mf_23 hO196 hc203
            have t220 := fI_of hc203 p218
            have t221 := fI_keep (k := 19) hO0 hO196 hv196 rfl (by decide)
            refine ur_inl rfl (rcv_of hc203) (Nat.le_of_ble_eq_true rfl) (Nat.le_of_ble_eq_true rfl) (st_X12_either n rec hO196 (pre0.un hO0 hO196 hv196 (by decide) (by decide)) (by omega) (by omega) (fun w222 h231 hr223 hO231 hv231 hp224 hp225 hp226 hp227 hp228 hp229 hp230 => ?_))
            have hu231 := hv231
            subst hr223
            show uRun _ (uCall Mt _) _ 105 (_, [], _, _, _)
            refine ur_ldA rfl rfl ?_
            obtain ⟨fs232, hc233⟩ := hO231.mod
            obtain ⟨f234, p235⟩ := mf_21 hO231 hc233
            have t236 := fI_of hc233 p235
            refine ur_get rfl hc233 p235 ?_
            refine ur_if1 rfl (fun c237 => ?_) (fun c237 => ?_)
            · have t238 := lt_to c237
              refine ur_ldA rfl rfl ?_
              obtain ⟨f239, p240, t241⟩ := mf_19 hO231 hc233
              have t242 := fI_of hc233 p240
              obtain ⟨f243, p244⟩ := mf_20 hO231 hc233
              have t245 := fI_of hc233 p244
              have t246 := fI_keep (k := 19) hO196 hO231 hv231 rfl (by decide)
              refine ur_inl rfl (rcv_of hc233) (Nat.le_of_ble_eq_true rfl) (Nat.le_of_ble_eq_true rfl) (st_X12_look hO231 ((pre0.un hO0 hO196 hv196 (by decide) (by decide)).un hO196 hO231 hv231 (by decide) (by decide)) (by omega) (fun w247 hr248 => ?_))
              obtain ⟨x249, rfl, t250⟩ := hr248
              show uRun _ (uCall Mt _) _ 117 (_, [(.inl x249)], _, _, _)
              refine ur_push rfl ?_
              refine ur_if2 rfl (fun c251 => ?_) (fun c251 => ?_)
              · have t252 := eq_to c251
                refine ur_ldA rfl rfl ?_
                refine ur_dup rfl rfl ?_
                refine ur_get rfl hc233 p244 ?_
                have t253 : 0 ≤ f243.toInt ∧ f243.toInt ≤ 120 := by omega
                refine ur_push rfl ?_
                refine ur_binV rfl (fun x254 e255 => ?_)
                have z256 := any_r f243
                have t257 := ti_add e255 (by omega) (by omega)
                obtain ⟨f258, p259⟩ := mf_22 hO231 hc233
                have t260 := fI_of hc233 p259
                obtain ⟨f261, p262, t263⟩ := mf_23 hO231 hc233
                have t264 := fI_of hc233 p262
                refine ur_putM (W := []) rfl hO231 hc233 (by decide) rfl (ms_20 (hO231.msh hc233)) (Or.inl rfl) (fun h266 hO266 hv266 d265 hc267 => ?_)
                have hu266 : un [83, 84] h231 h266 := hv266.mono (by decide)
                have t268 := fI_of hc267 (gs_ne p240 (by decide))
                have t269 := fI_of hc267 (gs_eq p244)
                have t270 := fI_of hc267 (gs_ne p235 (by decide))
                have t271 := fI_of hc267 (gs_ne p259 (by decide))
                have t272 := fI_of hc267 (gs_ne p262 (by decide))
                refine ur_ldA rfl rfl ?_
                refine ur_dup rfl rfl ?_
                refine ur_get rfl hc267 (gs_ne p259 (by decide)) ?_
                refine ur_push rfl ?_
                refine ur_binV rfl (fun x273 e274 => ?_)
                have z275 := any_r f258
                have t276 : 0 ≤ f258.toInt → x273.toInt = f258.toInt - (1 : Int32).toInt := fun q => by have := any_r f258; exact ti_sub e274 (by omega) (by omega)
                refine ur_putM (W := []) rfl hO266 hc267 (by decide) rfl (ms_22 (hO266.msh hc267)) (Or.inl rfl) (fun h278 hO278 hv278 d277 hc279 => ?_)
                have hu278 : un [83, 84] h266 h278 := hv278.mono (by decide)
                have t280 := fI_of hc279 (gs_ne (gs_ne p240 (by decide)) (by decide))
                have t281 := fI_of hc279 (gs_ne (gs_eq p244) (by decide))
                have t282 := fI_of hc279 (gs_ne (gs_ne p235 (by decide)) (by decide))
                have t283 := fI_of hc279 (gs_eq (gs_ne p259 (by decide)))
                have t284 := fI_of hc279 (gs_ne (gs_ne p262 (by decide)) (by decide))
                refine ur_go rfl ?_
                exact ur_ret0 rfl (hQ _ _ rfl hO278 (hu196.tr (hu231.tr (hu266.tr hu278))) (by omega) (by omega) (by omega) (kp.tr (n := (iL h0)) (kp.tr (n := (iL h0)) (kp.tr (n := (iL h0)) (kp.tr (n := (iL h0)) kp.rf (kp_un hO0 hv196 (by decide) (by decide) (iL h0)) (Nat.le_refl _)) hp227 (by unfold iL; omega)) (kp_un hO231 hv266 (by decide) (by decide) (iL h0)) (Nat.le_refl _)) (kp_un hO266 hv278 (by decide) (by decide) (iL h0)) (Nat.le_refl _)) (fun q => (bk_cast ((hp228 (by omega)).keep (kp.tr (n := (iL h231)) (kp.tr (n := (iL h231)) kp.rf (kp_un hO231 hv266 (by decide) (by decide) (iL h231)) (Nat.le_refl _)) (kp_un hO266 hv278 (by decide) (by decide) (iL h231)) (Nat.le_refl _))) (by unfold iL; omega) (by unfold iL; omega))) (ROt.par (by omega) (tS.cl pre0 t23.1 (c := 40) (by omega) (by decide)) hp229 (by omega) (by omega) (tkR_kp (kp_un hO0 hv196 (by decide) (by decide) (iL h0)) (by omega)) (by omega) (Or.inl ⟨by omega, tS.cl pre0 t250.1 (by omega) (by decide), by omega, by omega, by omega⟩) ((tkR_kp (kp_un hO266 hv278 (by decide) (by decide) (iL h266)) (by omega)).trans (tkR_kp (kp_un hO231 hv266 (by decide) (by decide) (iL h231)) (by omega)))) (by omega))
              · have t285 := eq_no c251
                refine ur_ldA rfl rfl ?_
                obtain ⟨f286, p287⟩ := mf_22 hO231 hc233
                have t288 := fI_of hc233 p287
                obtain ⟨f289, p290, t291⟩ := mf_23 hO231 hc233
                have t292 := fI_of hc233 p290
                refine ur_inl rfl (rcv_of hc233) (Nat.le_of_ble_eq_true rfl) (Nat.le_of_ble_eq_true rfl) (sf_X12_wrong hO231  (fun w293 h297 hr294 hO297 hv297 hp295 hp296 => ?_))
                have hu297 : un [83, 84] h231 h297 := hv297.mono (by decide)
                subst hr294
                show uRun _ (uCall Mt _) _ 126 (_, [], _, _, _)
                obtain ⟨fs298, hc299⟩ := hO297.mod
                obtain ⟨f300, p301, t302⟩ := mf_19 hO297 hc299
                have t303 := fI_of hc299 p301
                obtain ⟨f304, p305⟩ := mf_20 hO297 hc299
                have t306 := fI_of hc299 p305
                obtain ⟨f307, p308⟩ := mf_21 hO297 hc299
                have t309 := fI_of hc299 p308
                obtain ⟨f310, p311⟩ := mf_22 hO297 hc299
                have t312 := fI_of hc299 p311
                obtain ⟨f313, p314, t315⟩ := mf_23 hO297 hc299
                have t316 := fI_of hc299 p314
                have t317 := fI_keep (k := 19) hO231 hO297 hv297 rfl (by decide)
                exact ur_ret0 rfl (hQ _ _ rfl hO297 (hu196.tr (hu231.tr hu297)) (by omega) (by omega) (by omega) (kp.tr (n := (iL h0)) (kp.tr (n := (iL h0)) (kp.tr (n := (iL h0)) kp.rf (kp_un hO0 hv196 (by decide) (by decide) (iL h0)) (Nat.le_refl _)) hp227 (by unfold iL; omega)) (kp_un hO231 hv297 (by decide) (by decide) (iL h0)) (Nat.le_refl _)) (fun q => (bk_cast ((hp228 (by omega)).keep (kp.tr (n := (iL h231)) kp.rf (kp_un hO231 hv297 (by decide) (by decide) (iL h231)) (Nat.le_refl _))) (by unfold iL; omega) (by unfold iL; omega))) (ROt.par (by omega) (tS.cl pre0 t23.1 (c := 40) (by omega) (by decide)) hp229 (by omega) (by omega) (tkR_kp (kp_un hO0 hv196 (by decide) (by decide) (iL h0)) (by omega)) (by omega) (Or.inr (Or.inr ⟨by omega, sg_ne t250.1 (by omega) (by decide), by omega⟩)) (tkR_kp (kp_un hO231 hv297 (by decide) (by decide) (iL h231)) (by omega))) (by omega))
            · have t318 := lt_no c237
              obtain ⟨f319, p320, t321⟩ := mf_19 hO231 hc233
              have t322 := fI_of hc233 p320
              obtain ⟨f323, p324⟩ := mf_20 hO231 hc233
              have t325 := fI_of hc233 p324
              obtain ⟨f326, p327⟩ := mf_22 hO231 hc233
              have t328 := fI_of hc233 p327
              obtain ⟨f329, p330, t331⟩ := mf_23 hO231 hc233
              have t332 := fI_of hc233 p330
              have t333 := fI_keep (k := 19) hO196 hO231 hv231 rfl (by decide)
              exact ur_ret0 rfl (hQ _ _ rfl hO231 (hu196.tr hu231) (by omega) (by omega) (by omega) (kp.tr (n := (iL h0)) (kp.tr (n := (iL h0)) kp.rf (kp_un hO0 hv196 (by decide) (by decide) (iL h0)) (Nat.le_refl _)) hp227 (by unfold iL; omega)) (fun q => (bk_cast (hp228 (by omega)) (by unfold iL; omega) (by unfold iL; omega))) (ROt.par (by omega) (tS.cl pre0 t23.1 (c := 40) (by omega) (by decide)) hp229 (by omega) (by omega) (tkR_kp (kp_un hO0 hv196 (by decide) (by decide) (iL h0)) (by omega)) (by omega) (Or.inr (Or.inl ⟨by omega, by omega⟩)) rfl) (by omega))
          · have t334 := t199 c200
            clear t198 t199
            obtain ⟨fs335, hc336⟩ := hO196.mod
            obtain ⟨f337, p338, t339⟩ := mf_19 hO196 hc336
            have t340 := fI_of hc336 p338
            obtain ⟨f341, p342⟩ := mf_20 hO196 hc336
            have t343 := fI_of hc336 p342
            obtain ⟨f344, p345⟩ := mf_21 hO196 hc336
            have t346 := fI_of hc336 p345
            obtain ⟨f347, p348⟩ := mf_22 hO196 hc336
            have t349 := fI_of hc336 p348
            obtain ⟨f350, p351, t352⟩ := mf_23 hO196 hc336
            have t353 := fI_of hc336 p351
            have t354 := fI_keep (k := 19) hO0 hO196 hv196 rfl (by decide)
            have t355 := tS.c pre0 t23.1 (by omega)
            exact ur_ret0 rfl (hQ _ _ rfl hO196 hu196 (by omega) (by omega) (by omega) (kp.tr (n := (iL h0)) kp.rf (kp_un hO0 hv196 (by decide) (by decide) (iL h0)) (Nat.le_refl _)) (fun q => absurd q (by omega)) (ROt.no (by omega) (by omega) (by omega) (by omega) (by omega)) (by omega))
      · have t356 := ne_no c157
        refine ur_ldA rfl rfl ?_
        refine ur_inl rfl (rcv_of hc2) (Nat.le_of_ble_eq_true rfl) (Nat.le_of_ble_eq_true rfl) (st_X12_opens hO0 (by omega) (by omega) (fun w357 h360 hr358 hO360 hv360 hp359 => ?_))
        have hu360 : un [83, 84] h0 h360 := hv360.mono (by decide)
        obtain ⟨b361, rfl, t362, t363⟩ := hr358
        show uRun _ (uCall Mt _) _ 50 (_, [(.inl (bi b361))], _, _, _)
        refine ur_neB rfl (fun c364 => ?_) (fun c364 => ?_)
        · have t365 := t362 c364
          clear t362 t363
          refine ur_ldA rfl rfl ?_
          obtain ⟨fs366, hc367⟩ := hO360.mod
          obtain ⟨f368, p369, t370⟩ := mf_19 hO360 hc367
          have t371 := fI_of hc367 p369
          obtain ⟨f372, p373⟩ := mf_20 hO360 hc367
          have t374 := fI_of hc367 p373
          obtain ⟨f375, p376⟩ := mf_21 hO360 hc367
          have t377 := fI_of hc367 p376
          obtain ⟨f378, p379⟩ := mf_22 hO360 hc367
          have t380 := fI_of hc367 p379
          obtain ⟨f381, p382, t383⟩ := mf_23 hO360 hc367
          have t384 := fI_of hc367 p382
          have t385 := fI_keep (k := 19) hO0 hO360 hv360 rfl (by decide)
          refine ur_inl rfl (rcv_of hc367) (Nat.le_of_ble_eq_true rfl) (Nat.le_of_ble_eq_true rfl) (rec9 hO360 (pre0.un hO0 hO360 hv360 (by decide) (by decide)) (by omega) (by omega) (fun w386 h395 hr387 hO395 hv395 hp388 hp389 hp390 hp391 hp392 hp393 hp394 => ?_))
          have hu395 := hv395
          subst hr387
          show uRun _ (uCall Mt _) _ 58 (_, [], _, _, _)
          refine ur_ldA rfl rfl ?_
          refine ur_dup rfl rfl ?_
          obtain ⟨fs396, hc397⟩ := hO395.mod
          obtain ⟨f398, p399⟩ := mf_22 hO395 hc397
          have t400 := fI_of hc397 p399
          refine ur_get rfl hc397 p399 ?_
          refine ur_push rfl ?_
          refine ur_binV rfl (fun x401 e402 => ?_)
          have z403 := any_r f398
          have t404 : 0 ≤ f398.toInt → x401.toInt = f398.toInt - (1 : Int32).toInt := fun q => by have := any_r f398; exact ti_sub e402 (by omega) (by omega)
          obtain ⟨f405, p406, t407⟩ := mf_19 hO395 hc397
          have t408 := fI_of hc397 p406
          obtain ⟨f409, p410⟩ := mf_20 hO395 hc397
          have t411 := fI_of hc397 p410
          obtain ⟨f412, p413⟩ := mf_21 hO395 hc397
          have t414 := fI_of hc397 p413
          obtain ⟨f415, p416, t417⟩ := mf_23 hO395 hc397
          have t418 := fI_of hc397 p416
          refine ur_putM (W := []) rfl hO395 hc397 (by decide) rfl (ms_22 (hO395.msh hc397)) (Or.inl rfl) (fun h420 hO420 hv420 d419 hc421 => ?_)
          have hu420 : un [83, 84] h395 h420 := hv420.mono (by decide)
          have t422 := fI_of hc421 (gs_ne p406 (by decide))
          have t423 := fI_of hc421 (gs_ne p410 (by decide))
          have t424 := fI_of hc421 (gs_ne p413 (by decide))
          have t425 := fI_of hc421 (gs_eq p399)
          have t426 := fI_of hc421 (gs_ne p416 (by decide))
          refine ur_ldA rfl rfl ?_
          refine ur_ldI rfl rfl ?_
          refine ur_push rfl ?_
          refine ur_if2 rfl (fun c427 => ?_) (fun c427 => ?_)
          · have t428 := ne_to c427
            refine ur_push rfl ?_
            refine ur_push rfl ?_
            have t429 := fI_keep (k := 19) hO360 hO395 hv395 rfl (by decide)
            refine ur_inl rfl (rcv_of hc421) (Nat.le_of_ble_eq_true rfl) (Nat.le_of_ble_eq_true rfl) (sf_X12_lay hO420 _ (by show 1 ≤ (4 : Int32).toInt ∧ (4 : Int32).toInt ≤ 124; omega) _ (by omega) (fun w430 h435 hr431 hO435 hv435 hp432 hp433 hp434 => ?_))
            have hu435 := hv435
            subst hr431
            show uRun _ (uCall Mt _) _ 84 (_, [], _, _, _)
            refine ur_go rfl ?_
            obtain ⟨fs436, hc437⟩ := hO435.mod
            obtain ⟨f438, p439, t440⟩ := mf_19 hO435 hc437
            have t441 := fI_of hc437 p439
            obtain ⟨f442, p443⟩ := mf_20 hO435 hc437
            have t444 := fI_of hc437 p443
            obtain ⟨f445, p446⟩ := mf_21 hO435 hc437
            have t447 := fI_of hc437 p446
            obtain ⟨f448, p449⟩ := mf_22 hO435 hc437
            have t450 := fI_of hc437 p449
            obtain ⟨f451, p452, t453⟩ := mf_23 hO435 hc437
            have t454 := fI_of hc437 p452
            have t455 := fI_keep (k := 19) hO420 hO435 hv435 rfl (by decide)
            exact ur_ret0 rfl (hQ _ _ rfl hO435 (hu360.tr (hu395.tr (hu420.tr hu435))) (by omega) (by omega) (by omega) (kp.tr (n := (iL h0)) (kp.tr (n := (iL h0)) (kp.tr (n := (iL h0)) (kp.tr (n := (iL h0)) kp.rf (kp_un hO0 hv360 (by decide) (by decide) (iL h0)) (Nat.le_refl _)) hp391 (by unfold iL; omega)) (kp_un hO395 hv420 (by decide) (by decide) (iL h0)) (Nat.le_refl _)) hp433 (by unfold iL; omega)) (fun q => (bk_cast (bk_un (hp392 (by omega)) (kp.tr (n := (iL h395)) (kp.tr (n := (iL h395)) kp.rf (kp_un hO395 hv420 (by decide) (by decide) (iL h395)) (Nat.le_refl _)) hp433 (by unfold iL; omega)) hp434 (by unfold iL; omega) (by omega) rfl (by unfold iL; omega)) (by unfold iL; omega) (by unfold iL; omega))) (ROt.un (c := 45) (s := 4) (by omega) (tS.cl pre0 t23.1 (c := 45) (by omega) (by decide)) (by decide) hp393 (by omega) (by omega) (tkR_kp (kp_un hO0 hv360 (by decide) (by decide) (iL h0)) (by omega)) (tkR_2 (tkR_lay hp433 hp434 (by omega) (by omega)) (tkR_kp (kp_un hO395 hv420 (by decide) (by decide) (iL h395)) (by omega)) l_4) rfl l_0 (by omega) (fun q => by omega)) (by omega))
          · have t456 := ne_no c427
            exfalso
            omega
        · have t457 := t363 c364
          clear t362 t363
          obtain ⟨fs458, hc459⟩ := hO360.mod
          obtain ⟨f460, p461, t462⟩ := mf_19 hO360 hc459
          have t463 := fI_of hc459 p461
          obtain ⟨f464, p465⟩ := mf_20 hO360 hc459
          have t466 := fI_of hc459 p465
          obtain ⟨f467, p468⟩ := mf_21 hO360 hc459
          have t469 := fI_of hc459 p468
          obtain ⟨f470, p471⟩ := mf_22 hO360 hc459
          have t472 := fI_of hc459 p471
          obtain ⟨f473, p474, t475⟩ := mf_23 hO360 hc459
          have t476 := fI_of hc459 p474
          have t477 := fI_keep (k := 19) hO0 hO360 hv360 rfl (by decide)
          have t478 := tS.c pre0 t23.1 (by omega)
          exact ur_ret0 rfl (hQ _ _ rfl hO360 hu360 (by omega) (by omega) (by omega) (kp.tr (n := (iL h0)) kp.rf (kp_un hO0 hv360 (by decide) (by decide) (iL h0)) (Nat.le_refl _)) (fun q => absurd q (by omega)) (ROt.no (by omega) (by omega) (by omega) (by omega) (by omega)) (by omega))
  · have t479 := lt_no c30
    refine ur_ldA rfl rfl ?_
    refine ur_push rfl ?_
    refine ur_ldI rfl rfl ?_
    refine ur_inl rfl rfl (Nat.le_of_ble_eq_true rfl) (Nat.le_of_ble_eq_true rfl) (st_X12_nameOf hO0 _ (fun w480 hr481 => ?_))
    obtain ⟨x482, rfl, f483⟩ := hr481
    show uRun _ (uCall Mt _) _ 18 (_, [(.inl x482), (.inl 2), (.inr (.inr (some 69)))], _, _, _)
    have t484 := f483
    refine ur_inl rfl (rcv_of hc2) (Nat.le_of_ble_eq_true rfl) (Nat.le_of_ble_eq_true rfl) (sf_X12_lay hO0 _ (by show 1 ≤ (2 : Int32).toInt ∧ (2 : Int32).toInt ≤ 124; omega) _ (by omega) (fun w485 h490 hr486 hO490 hv490 hp487 hp488 hp489 => ?_))
    have hu490 := hv490
    subst hr486
    show uRun _ (uCall Mt _) _ 21 (_, [], _, _, _)
    refine ur_ldA rfl rfl ?_
    refine ur_dup rfl rfl ?_
    obtain ⟨fs491, hc492⟩ := hO490.mod
    obtain ⟨f493, p494⟩ := mf_20 hO490 hc492
    have t495 := fI_of hc492 p494
    refine ur_get rfl hc492 p494 ?_
    obtain ⟨f496, p497, t498⟩ := mf_19 hO490 hc492
    have t499 := fI_of hc492 p497
    have t500 := fI_keep (k := 19) hO0 hO490 hv490 rfl (by decide)
    have t501 : 0 ≤ f493.toInt ∧ f493.toInt ≤ 120 := by omega
    refine ur_push rfl ?_
    refine ur_binV rfl (fun x502 e503 => ?_)
    have z504 := any_r f493
    have t505 := ti_add e503 (by omega) (by omega)
    obtain ⟨f506, p507⟩ := mf_21 hO490 hc492
    have t508 := fI_of hc492 p507
    obtain ⟨f509, p510⟩ := mf_22 hO490 hc492
    have t511 := fI_of hc492 p510
    obtain ⟨f512, p513, t514⟩ := mf_23 hO490 hc492
    have t515 := fI_of hc492 p513
    refine ur_putM (W := []) rfl hO490 hc492 (by decide) rfl (ms_20 (hO490.msh hc492)) (Or.inl rfl) (fun h517 hO517 hv517 d516 hc518 => ?_)
    have hu517 : un [83, 84] h490 h517 := hv517.mono (by decide)
    have t519 := fI_of hc518 (gs_ne p497 (by decide))
    have t520 := fI_of hc518 (gs_eq p494)
    have t521 := fI_of hc518 (gs_ne p507 (by decide))
    have t522 := fI_of hc518 (gs_ne p510 (by decide))
    have t523 := fI_of hc518 (gs_ne p513 (by decide))
    refine ur_go rfl ?_
    exact ur_ret0 rfl (hQ _ _ rfl hO517 (hu490.tr hu517) (by omega) (by omega) (by omega) (kp.tr (n := (iL h0)) (kp.tr (n := (iL h0)) kp.rf hp488 (by unfold iL; omega)) (kp_un hO490 hv517 (by decide) (by decide) (iL h0)) (Nat.le_refl _)) (fun q => (bk_cast ((bk_push hp489 (by omega) rfl rfl).keep (kp.tr (n := (iL h0 + 1)) kp.rf (kp_un hO490 hv517 (by decide) (by decide) (iL h0 + 1)) (Nat.le_refl _))) (by unfold iL; omega) (by unfold iL; omega))) (ROt.name (j := x482.toInt) (by omega) (by omega) (by omega) (by omega) ((tkR_kp (kp_un hO490 hv517 (by decide) (by decide) (iL h490)) (by omega)).trans (tkR_2 (tkR_lay hp488 hp489 (by omega) (by omega)) rfl l_2)) rfl (by omega) (by omega)) (by omega))

set_option maxRecDepth 20000 in
set_option maxHeartbeats 4000000 in
theorem st_X12_op_0 {d kc ks : Nat} {h0 : aH} {Q : Option aV → aH → Prop} {t : Int → Int} (hO0 : OK h0)  (pre0 : tS h0 t) (pre1 : 0 ≤ fI h0 20 ∧ fI h0 20 ≤ fI h0 19 ∧ fI h0 21 < 0 ∧ fI h0 23 ≤ fI h0 20) (pre2 : fI h0 22 = 6) (hQ : ∀ r h', (r = none) → OK h' → un [83, 84] h0 h' → (fI h0 20 ≤ fI h' 20 ∧ fI h' 20 ≤ fI h' 19 ∧ fI h' 19 = fI h0 19) → (fI h0 23 ≤ fI h' 23 ∧ fI h' 23 - fI h' 20 ≤ fI h0 23 - fI h0 20 + 1) → (fI h' 21 < 0 → fI h' 23 - fI h' 20 ≤ fI h0 23 - fI h0 20 ∧ fI h' 22 = fI h0 22 ∧ fI h0 23 < fI h' 23) → (kp h0 h' (iL h0)) → (fI h' 21 < 0 → bk h' (iL h0) (iL h')) → (ROt t 0 (fI h0 22) (fI h0 20) (tkR h0) (fI h' 21) (fI h' 22) (fI h' 20) (tkR h')) → (fI h' 21 ≤ fI h' 19) → Q r h') : uCall Mt (d + 4) 219 [(.inr (.inr (some 69)))] h0 kc ks Q := by
  have l_0 : ((0) : Int32).toInt = 0 := by decide
  have l_1 : ((1) : Int32).toInt = 1 := by decide
  have l_2 : ((2) : Int32).toInt = 2 := by decide
  have l_33 : ((33) : Int32).toInt = 33 := by decide
  have l_40 : ((40) : Int32).toInt = 40 := by decide
  have l_45 : ((45) : Int32).toInt = 45 := by decide
  refine uc_ink [some (.inr (.inr (some 69))), none] mt_219 (Nat.le_of_ble_eq_true rfl) rfl ?_
  obtain ⟨fs1, hc2⟩ := hO0.mod
  obtain ⟨f3, p4, t5⟩ := mf_19 hO0 hc2
  have t6 := fI_of hc2 p4
  obtain ⟨f7, p8⟩ := mf_20 hO0 hc2
  have t9 := fI_of hc2 p8
  obtain ⟨f10, p11⟩ := mf_21 hO0 hc2
  have t12 := fI_of hc2 p11
  obtain ⟨f13, p14⟩ := mf_22 hO0 hc2
  have t15 := fI_of hc2 p14
  obtain ⟨f16, p17, t18⟩ := mf_23 hO0 hc2
  have t19 := fI_of hc2 p17
  refine ur_ldA rfl rfl ?_
  refine ur_inl rfl (rcv_of hc2) (Nat.le_of_ble_eq_true rfl) (Nat.le_of_ble_eq_true rfl) (st_X12_look hO0 pre0 (by omega) (fun w20 hr21 => ?_))
  obtain ⟨x22, rfl, t23⟩ := hr21
  show uRun _ (uCall Mt _) _ 4 (_, [(.inl x22)], _, _, _)
  have t24 := tS.nm pre0 t23.1
  refine ur_svIk [some (.inr (.inr (some 69))), some (.inl x22)] rfl rfl ?_
  refine ur_ldI rfl rfl ?_
  refine ur_inl rfl rfl (Nat.le_of_ble_eq_true rfl) (Nat.le_of_ble_eq_true rfl) (st_X12_nameOf hO0 _ (fun w25 hr26 => ?_))
  obtain ⟨x27, rfl, f28⟩ := hr26
  show uRun _ (uCall Mt _) _ 9 (_, [(.inl x27)], _, _, _)
  have t29 := f28
  refine ur_if1 rfl (fun c30 => ?_) (fun c30 => ?_)
  · have t31 := lt_to c30
    refine ur_ldI rfl rfl ?_
    refine ur_push rfl ?_
    refine ur_if2 rfl (fun c32 => ?_) (fun c32 => ?_)
    · have t33 := eq_to c32
      refine ur_ldA rfl rfl ?_
      refine ur_inl rfl (rcv_of hc2) (Nat.le_of_ble_eq_true rfl) (Nat.le_of_ble_eq_true rfl) (st_X12_opens hO0 (by omega) (by omega) (fun w34 h37 hr35 hO37 hv37 hp36 => ?_))
      have hu37 : un [83, 84] h0 h37 := hv37.mono (by decide)
      obtain ⟨b38, rfl, t39, t40⟩ := hr35
      show uRun _ (uCall Mt _) _ 50 (_, [(.inl (bi b38))], _, _, _)
      refine ur_neB rfl (fun c41 => ?_) (fun c41 => ?_)
      · have t42 := t39 c41
        clear t39 t40
        exfalso
        omega
      · have t43 := t40 c41
        clear t39 t40
        obtain ⟨fs44, hc45⟩ := hO37.mod
        obtain ⟨f46, p47, t48⟩ := mf_19 hO37 hc45
        have t49 := fI_of hc45 p47
        obtain ⟨f50, p51⟩ := mf_20 hO37 hc45
        have t52 := fI_of hc45 p51
        obtain ⟨f53, p54⟩ := mf_21 hO37 hc45
        have t55 := fI_of hc45 p54
        obtain ⟨f56, p57⟩ := mf_22 hO37 hc45
        have t58 := fI_of hc45 p57
        obtain ⟨f59, p60, t61⟩ := mf_23 hO37 hc45
        have t62 := fI_of hc45 p60
        have t63 := fI_keep (k := 19) hO0 hO37 hv37 rfl (by decide)
        have t64 := tS.c pre0 t23.1 (by omega)
        exact ur_ret0 rfl (hQ _ _ rfl hO37 hu37 (by omega) (by omega) (by omega) (kp.tr (n := (iL h0)) kp.rf (kp_un hO0 hv37 (by decide) (by decide) (iL h0)) (Nat.le_refl _)) (fun q => absurd q (by omega)) (ROt.no (by omega) (by omega) (by omega) (by omega) (by omega)) (by omega))
    · have t65 := eq_no c32
      refine ur_ldI rfl rfl ?_
      refine ur_push rfl ?_
      refine ur_if2 rfl (fun c66 => ?_) (fun c66 => ?_)
      · have t67 := ne_to c66
        refine ur_ldI rfl rfl ?_
        refine ur_push rfl ?_
        refine ur_if2 rfl (fun c68 => ?_) (fun c68 => ?_)
        · have t69 := ne_to c68
          have t70 : t (fI h0 20) ≠ 33 ∧ t (fI h0 20) ≠ 45 ∧ t (fI h0 20) ≠ 40 := ⟨sg_ne t23.1 (by omega) (by decide), sg_ne t23.1 (by omega) (by decide), sg_ne t23.1 (by omega) (by decide)⟩
          refine ur_ldA rfl rfl ?_
          refine ur_inl rfl (rcv_of hc2) (Nat.le_of_ble_eq_true rfl) (Nat.le_of_ble_eq_true rfl) (st_X12_number hO0 pre0 (by omega) (by omega) (by omega) (fun w71 h80 hr72 hO80 hv80 hp73 hp74 hp75 hp76 hp77 hp78 hp79 => ?_))
          have hu80 := hv80
          subst hr72
          show uRun _ (uCall Mt _) _ 154 (_, [], _, _, _)
          obtain ⟨fs81, hc82⟩ := hO80.mod
          obtain ⟨f83, p84, t85⟩ := mf_19 hO80 hc82
          have t86 := fI_of hc82 p84
          obtain ⟨f87, p88⟩ := mf_20 hO80 hc82
          have t89 := fI_of hc82 p88
          obtain ⟨f90, p91⟩ := mf_21 hO80 hc82
          have t92 := fI_of hc82 p91
          obtain ⟨f93, p94⟩ := mf_22 hO80 hc82
          have t95 := fI_of hc82 p94
          obtain ⟨f96, p97, t98⟩ := mf_23 hO80 hc82
          have t99 := fI_of hc82 p97
          have t100 := fI_keep (k := 19) hO0 hO80 hv80 rfl (by decide)
          exact ur_ret0 rfl (hQ _ _ rfl hO80 hu80 (by omega) (by omega) (by omega) (kp.tr (n := (iL h0)) kp.rf hp76 (by unfold iL; omega)) (fun q => (bk_cast (hp77 (by omega)) (by unfold iL; omega) (by unfold iL; omega))) hp78 (by omega))
        · have t101 := ne_no c68
          refine ur_ldA rfl rfl ?_
          refine ur_inl rfl (rcv_of hc2) (Nat.le_of_ble_eq_true rfl) (Nat.le_of_ble_eq_true rfl) (st_X12_opens hO0 (by omega) (by omega) (fun w102 h105 hr103 hO105 hv105 hp104 => ?_))
          have hu105 : un [83, 84] h0 h105 := hv105.mono (by decide)
          obtain ⟨b106, rfl, t107, t108⟩ := hr103
          show uRun _ (uCall Mt _) _ 97 (_, [(.inl (bi b106))], _, _, _)
          refine ur_neB rfl (fun c109 => ?_) (fun c109 => ?_)
          · have t110 := t107 c109
            clear t107 t108
            exfalso
            omega
          · have t111 := t108 c109
            clear t107 t108
            obtain ⟨fs112, hc113⟩ := hO105.mod
            obtain ⟨f114, p115, t116⟩ := mf_19 hO105 hc113
            have t117 := fI_of hc113 p115
            obtain ⟨f118, p119⟩ := mf_20 hO105 hc113
            have t120 := fI_of hc113 p119
            obtain ⟨f121, p122⟩ := mf_21 hO105 hc113
            have t123 := fI_of hc113 p122
            obtain ⟨f124, p125⟩ := mf_22 hO105 hc113
            have t126 := fI_of hc113 p125
            obtain ⟨f127, p128, t129⟩ := mf_23 hO105 hc113
            have t130 := fI_of hc113 p128
            have t131 := fI_keep (k := 19) hO0 hO105 hv105 rfl (by decide)
            have t132 := tS.c pre0 t23.1 (by omega)
            exact ur_ret0 rfl (hQ _ _ rfl hO105 hu105 (by omega) (by omega) (by omega) (kp.tr (n := (iL h0)) kp.rf (kp_un hO0 hv105 (by decide) (by decide) (iL h0)) (Nat.le_refl _)) (fun q => absurd q (by omega)) (ROt.no (by omega) (by omega) (by omega) (by omega) (by omega)) (by omega))
      · have t133 := ne_no c66
        refine ur_ldA rfl rfl ?_
        refine ur_inl rfl (rcv_of hc2) (Nat.le_of_ble_eq_true rfl) (Nat.le_of_ble_eq_true rfl) (st_X12_opens hO0 (by omega) (by omega) (fun w134 h137 hr135 hO137 hv137 hp136 => ?_))
        have hu137 : un [83, 84] h0 h137 := hv137.mono (by decide)
        obtain ⟨b138, rfl, t139, t140⟩ := hr135
        show uRun _ (uCall Mt _) _ 50 (_, [(.inl (bi b138))], _, _, _)
        refine ur_neB rfl (fun c141 => ?_) (fun c141 => ?_)
        · have t142 := t139 c141
          clear t139 t140
          exfalso
          omega
        · have t143 := t140 c141
          clear t139 t140
          obtain ⟨fs144, hc145⟩ := hO137.mod
          obtain ⟨f146, p147, t148⟩ := mf_19 hO137 hc145
          have t149 := fI_of hc145 p147
          obtain ⟨f150, p151⟩ := mf_20 hO137 hc145
          have t152 := fI_of hc145 p151
          obtain ⟨f153, p154⟩ := mf_21 hO137 hc145
          have t155 := fI_of hc145 p154
          obtain ⟨f156, p157⟩ := mf_22 hO137 hc145
          have t158 := fI_of hc145 p157
          obtain ⟨f159, p160, t161⟩ := mf_23 hO137 hc145
          have t162 := fI_of hc145 p160
          have t163 := fI_keep (k := 19) hO0 hO137 hv137 rfl (by decide)
          have t164 := tS.c pre0 t23.1 (by omega)
          exact ur_ret0 rfl (hQ _ _ rfl hO137 hu137 (by omega) (by omega) (by omega) (kp.tr (n := (iL h0)) kp.rf (kp_un hO0 hv137 (by decide) (by decide) (iL h0)) (Nat.le_refl _)) (fun q => absurd q (by omega)) (ROt.no (by omega) (by omega) (by omega) (by omega) (by omega)) (by omega))
  · have t165 := lt_no c30
    refine ur_ldA rfl rfl ?_
    refine ur_push rfl ?_
    refine ur_ldI rfl rfl ?_
    refine ur_inl rfl rfl (Nat.le_of_ble_eq_true rfl) (Nat.le_of_ble_eq_true rfl) (st_X12_nameOf hO0 _ (fun w166 hr167 => ?_))
    obtain ⟨x168, rfl, f169⟩ := hr167
    show uRun _ (uCall Mt _) _ 18 (_, [(.inl x168), (.inl 2), (.inr (.inr (some 69)))], _, _, _)
    have t170 := f169
    refine ur_inl rfl (rcv_of hc2) (Nat.le_of_ble_eq_true rfl) (Nat.le_of_ble_eq_true rfl) (sf_X12_lay hO0 _ (by show 1 ≤ (2 : Int32).toInt ∧ (2 : Int32).toInt ≤ 124; omega) _ (by omega) (fun w171 h176 hr172 hO176 hv176 hp173 hp174 hp175 => ?_))
    have hu176 := hv176
    subst hr172
    show uRun _ (uCall Mt _) _ 21 (_, [], _, _, _)
    refine ur_ldA rfl rfl ?_
    refine ur_dup rfl rfl ?_
    obtain ⟨fs177, hc178⟩ := hO176.mod
    obtain ⟨f179, p180⟩ := mf_20 hO176 hc178
    have t181 := fI_of hc178 p180
    refine ur_get rfl hc178 p180 ?_
    obtain ⟨f182, p183, t184⟩ := mf_19 hO176 hc178
    have t185 := fI_of hc178 p183
    have t186 := fI_keep (k := 19) hO0 hO176 hv176 rfl (by decide)
    have t187 : 0 ≤ f179.toInt ∧ f179.toInt ≤ 120 := by omega
    refine ur_push rfl ?_
    refine ur_binV rfl (fun x188 e189 => ?_)
    have z190 := any_r f179
    have t191 := ti_add e189 (by omega) (by omega)
    obtain ⟨f192, p193⟩ := mf_21 hO176 hc178
    have t194 := fI_of hc178 p193
    obtain ⟨f195, p196⟩ := mf_22 hO176 hc178
    have t197 := fI_of hc178 p196
    obtain ⟨f198, p199, t200⟩ := mf_23 hO176 hc178
    have t201 := fI_of hc178 p199
    refine ur_putM (W := []) rfl hO176 hc178 (by decide) rfl (ms_20 (hO176.msh hc178)) (Or.inl rfl) (fun h203 hO203 hv203 d202 hc204 => ?_)
    have hu203 : un [83, 84] h176 h203 := hv203.mono (by decide)
    have t205 := fI_of hc204 (gs_ne p183 (by decide))
    have t206 := fI_of hc204 (gs_eq p180)
    have t207 := fI_of hc204 (gs_ne p193 (by decide))
    have t208 := fI_of hc204 (gs_ne p196 (by decide))
    have t209 := fI_of hc204 (gs_ne p199 (by decide))
    refine ur_go rfl ?_
    exact ur_ret0 rfl (hQ _ _ rfl hO203 (hu176.tr hu203) (by omega) (by omega) (by omega) (kp.tr (n := (iL h0)) (kp.tr (n := (iL h0)) kp.rf hp174 (by unfold iL; omega)) (kp_un hO176 hv203 (by decide) (by decide) (iL h0)) (Nat.le_refl _)) (fun q => (bk_cast ((bk_push hp175 (by omega) rfl rfl).keep (kp.tr (n := (iL h0 + 1)) kp.rf (kp_un hO176 hv203 (by decide) (by decide) (iL h0 + 1)) (Nat.le_refl _))) (by unfold iL; omega) (by unfold iL; omega))) (ROt.name (j := x168.toInt) (by omega) (by omega) (by omega) (by omega) ((tkR_kp (kp_un hO176 hv203 (by decide) (by decide) (iL h176)) (by omega)).trans (tkR_2 (tkR_lay hp174 hp175 (by omega) (by omega)) rfl l_2)) rfl (by omega) (by omega)) (by omega))

theorem st_X12_op {t : Int → Int} (n : Nat) : ∀ {d kc ks : Nat} {h0 : aH} {Q : Option aV → aH → Prop}, OK h0 → (tS h0 t) → (0 ≤ fI h0 20 ∧ fI h0 20 ≤ fI h0 19 ∧ fI h0 21 < 0 ∧ fI h0 23 ≤ fI h0 20) → (0 ≤ fI h0 22 ∧ fI h0 22 ≤ 6 ∧ 6 ≤ fI h0 22 + (n : Int)) → (∀ r h', (r = none) → OK h' → un [83, 84] h0 h' → (fI h0 20 ≤ fI h' 20 ∧ fI h' 20 ≤ fI h' 19 ∧ fI h' 19 = fI h0 19) → (fI h0 23 ≤ fI h' 23 ∧ fI h' 23 - fI h' 20 ≤ fI h0 23 - fI h0 20 + 1) → (fI h' 21 < 0 → fI h' 23 - fI h' 20 ≤ fI h0 23 - fI h0 20 ∧ fI h' 22 = fI h0 22 ∧ fI h0 23 < fI h' 23) → (kp h0 h' (iL h0)) → (fI h' 21 < 0 → bk h' (iL h0) (iL h')) → (ROt t 0 (fI h0 22) (fI h0 20) (tkR h0) (fI h' 21) (fI h' 22) (fI h' 20) (tkR h')) → (fI h' 21 ≤ fI h' 19) → Q r h') → uCall Mt (d + 6 * n + 4) 219 [(.inr (.inr (some 69)))] h0 kc ks Q := by
  induction n with
  | zero => exact fun hO p a b k => st_X12_op_0 hO p a (by omega) k
  | succ n ih => exact fun {d kc ks h0 Q} hO p a b k => uCall_le (show d + 6 * n + 10 ≤ d + 6 * (n + 1) + 4 by omega) (st_X12_op_s (d := d + 6 * n) n (fun {kc ks h0 Q} hO p a b k => ih hO p a b k) (fun {kc ks h0 Q} hO p a b k => uCall_le (show d + 6 * n + 4 ≤ d + 6 * n + 9 by omega) (ih hO p a b k)) hO p a b k)
theorem st_X12_rE {d kc ks : Nat} {h0 : aH} {Q : Option aV → aH → Prop} {t : Int → Int} (hO : OK h0) (p : tS h0 t) (a : 0 ≤ fI h0 20 ∧ fI h0 20 ≤ fI h0 19 ∧ fI h0 21 < 0 ∧ fI h0 23 ≤ fI h0 20) (b : 0 ≤ fI h0 22 ∧ fI h0 22 ≤ 6) (hQ : ∀ r h', (r = none) → OK h' → un [83, 84] h0 h' → (fI h0 20 ≤ fI h' 20 ∧ fI h' 20 ≤ fI h' 19 ∧ fI h' 19 = fI h0 19) → (fI h0 23 ≤ fI h' 23 ∧ fI h' 23 - fI h' 20 ≤ fI h0 23 - fI h0 20 + 1) → (fI h' 21 < 0 → fI h' 23 - fI h' 20 ≤ fI h0 23 - fI h0 20 ∧ fI h' 22 = fI h0 22 ∧ fI h0 23 < fI h' 23) → (kp h0 h' (iL h0)) → (fI h' 21 < 0 → bk h' (iL h0) (iL h')) → (ROt t 5 (fI h0 22) (fI h0 20) (tkR h0) (fI h' 21) (fI h' 22) (fI h' 20) (tkR h')) → (fI h' 21 ≤ fI h' 19) → Q r h') : uCall Mt (d + 45) 224 [(.inr (.inr (some 69)))] h0 kc ks Q := uCall_le (show d + 6 * 6 + 9 ≤ d + 45 by omega) (st_X12_either (d := d + 6 * 6) 6 (fun {kc ks h0 Q} hO p a b k => st_X12_op 6 hO p a b k) hO p a (by omega) hQ)
end TRHd
