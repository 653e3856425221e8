/-! CONTRACTS of the reference, the ninth part, printed by program -/
section CU3
set_option maxRecDepth 20000 in
set_option maxHeartbeats 4000000 in
theorem sf_X12_product {d kc ks : Nat} {h0 : aH} {Q : Option aV → aH → Prop} (n : Nat) (rec : ∀ {kc ks : Nat} {h0 : aH} {Q : Option aV → aH → Prop}, OK h0 → (0 ≤ fI h0 20 ∧ fI h0 20 ≤ fI h0 19 ∧ fI h0 21 < 0 ∧ fI h0 23 ≤ fI h0 20) → (0 ≤ fI h0 22 ∧ fI h0 22 ≤ 6 ∧ 6 ≤ fI h0 22 + (n : Int)) → (∀ r h', (r = none) → OK h' → un [83, 84] h0 h' → (fI h0 20 ≤ fI h' 20 ∧ fI h' 20 ≤ fI h' 19 ∧ fI h' 19 = fI h0 19) → (fI h0 23 ≤ fI h' 23 ∧ fI h' 23 - fI h' 20 ≤ fI h0 23 - fI h0 20 + 1) → (fI h' 21 < 0 → fI h' 23 - fI h' 20 ≤ fI h0 23 - fI h0 20 ∧ fI h' 22 = fI h0 22 ∧ fI h0 23 < fI h' 23) → (kp h0 h' (iL h0)) → (fI h' 21 < 0 → bk h' (iL h0) (iL h')) → Q r h') → uCall Mt (d + 4) 219 [(.inr (.inr (some 69)))] h0 kc ks Q) (hO0 : OK h0)  (pre0 : 0 ≤ fI h0 20 ∧ fI h0 20 ≤ fI h0 19 ∧ fI h0 21 < 0 ∧ fI h0 23 ≤ fI h0 20) (pre1 : 0 ≤ fI h0 22 ∧ fI h0 22 ≤ 6 ∧ 6 ≤ fI h0 22 + (n : Int)) (hQ : ∀ r h', (r = none) → OK h' → un [83, 84] h0 h' → (fI h0 20 ≤ fI h' 20 ∧ fI h' 20 ≤ fI h' 19 ∧ fI h' 19 = fI h0 19) → (fI h0 23 ≤ fI h' 23 ∧ fI h' 23 - fI h' 20 ≤ fI h0 23 - fI h0 20 + 1) → (fI h' 21 < 0 → fI h' 23 - fI h' 20 ≤ fI h0 23 - fI h0 20 ∧ fI h' 22 = fI h0 22 ∧ fI h0 23 < fI h' 23) → (kp h0 h' (iL h0)) → (fI h' 21 < 0 → bk h' (iL h0) (iL h')) → Q r h') : uCall Mt (d + 5) 220 [(.inr (.inr (some 69)))] h0 kc ks Q := by
  have l_0 : ((0) : Int32).toInt = 0 := by decide
  have l_1 : ((1) : Int32).toInt = 1 := by decide
  have l_37 : ((37) : Int32).toInt = 37 := by decide
  have l_42 : ((42) : Int32).toInt = 42 := by decide
  have l_47 : ((47) : Int32).toInt = 47 := by decide
  refine uc_ink [some (.inr (.inr (some 69))), none] mt_220 (Nat.le_of_ble_eq_true rfl) rfl ?_
  obtain ⟨fs1, hc2⟩ := hO0.mod
  obtain ⟨f3, p4, t5⟩ := mf_19 hO0 hc2
  have t6 := fI_of hc2 p4
  obtain ⟨f7, p8⟩ := mf_20 hO0 hc2
  have t9 := fI_of hc2 p8
  obtain ⟨f10, p11⟩ := mf_21 hO0 hc2
  have t12 := fI_of hc2 p11
  obtain ⟨f13, p14⟩ := mf_22 hO0 hc2
  have t15 := fI_of hc2 p14
  obtain ⟨f16, p17, t18⟩ := mf_23 hO0 hc2
  have t19 := fI_of hc2 p17
  refine ur_ldA rfl rfl ?_
  refine ur_inl rfl (rcv_of hc2) (Nat.le_of_ble_eq_true rfl) (Nat.le_of_ble_eq_true rfl) (rec hO0 (by omega) (by omega) (fun w20 h27 hr21 hO27 hv27 hp22 hp23 hp24 hp25 hp26 => ?_))
  have hu27 := hv27
  subst hr21
  show uRun _ (uCall Mt _) _ 4 (_, [], _, _, _)
  obtain ⟨fs32, hc33⟩ := hO27.mod
  obtain ⟨f34, p35, t36⟩ := mf_19 hO27 hc33
  have t37 := fI_of hc33 p35
  obtain ⟨f38, p39⟩ := mf_20 hO27 hc33
  have t40 := fI_of hc33 p39
  obtain ⟨f41, p42⟩ := mf_21 hO27 hc33
  have t43 := fI_of hc33 p42
  obtain ⟨f44, p45⟩ := mf_22 hO27 hc33
  have t46 := fI_of hc33 p45
  obtain ⟨f47, p48, t49⟩ := mf_23 hO27 hc33
  have t50 := fI_of hc33 p48
  have L29 : ∀ (m30 : Nat) (u28 : Option aV) (h51 : aH) , OK h51 → un [83, 84] h27 h51 → ((fI h0 20 ≤ fI h51 20 ∧ fI h51 20 ≤ fI h51 19 ∧ fI h51 19 = fI h0 19) ∧ (fI h0 23 ≤ fI h51 23 ∧ fI h51 23 - fI h51 20 ≤ fI h0 23 - fI h0 20 + 1) ∧ (fI h51 21 < 0 → fI h51 23 - fI h51 20 ≤ fI h0 23 - fI h0 20 ∧ fI h51 22 = fI h0 22 ∧ fI h0 23 < fI h51 23)) → (kp h0 h51 (iL h0)) → (fI h51 21 < 0 → bk h51 (iL h0) (iL h51)) → ((121 - fI h51 20).toNat) < m30 → uRun oX12_product (uCall Mt (d + 4)) Q 4 ([some (.inr (.inr (some 69))), u28], [], h51, kc, ks) := by
    intro m30
    induction m30 with
    | zero => intro u28 h51 hO51 hu51 iv54 px52 px53 mm55; omega
    | succ m30 ih31 =>
      intro u28 h51 hO51 hu51 iv54 px52 px53 mm55
      refine ur_ldA rfl rfl ?_
      obtain ⟨fs56, hc57⟩ := hO51.mod
      obtain ⟨f58, p59⟩ := mf_21 hO51 hc57
      have t60 := fI_of hc57 p59
      refine ur_get rfl hc57 p59 ?_
      refine ur_if1 rfl (fun c61 => ?_) (fun c61 => ?_)
      · have t62 := le_to c61
        obtain ⟨f63, p64, t65⟩ := mf_19 hO51 hc57
        have t66 := fI_of hc57 p64
        obtain ⟨f67, p68⟩ := mf_20 hO51 hc57
        have t69 := fI_of hc57 p68
        obtain ⟨f70, p71⟩ := mf_22 hO51 hc57
        have t72 := fI_of hc57 p71
        obtain ⟨f73, p74, t75⟩ := mf_23 hO51 hc57
        have t76 := fI_of hc57 p74
        have t77 := fI_keep (k := 19) hO0 hO27 hv27 rfl (by decide)
        exact ur_ret0 rfl (hQ _ _ rfl hO51 (hu27.tr hu51) (by omega) (by omega) (by omega) px52 (fun q => (bk_cast (px53 (by omega)) (by unfold iL; omega) (by unfold iL; omega))))
      · have t78 := le_no c61
        refine ur_ldA rfl rfl ?_
        obtain ⟨f79, p80, t81⟩ := mf_19 hO51 hc57
        have t82 := fI_of hc57 p80
        obtain ⟨f83, p84⟩ := mf_20 hO51 hc57
        have t85 := fI_of hc57 p84
        have t86 := fI_keep (k := 19) hO0 hO27 hv27 rfl (by decide)
        refine ur_inl rfl (rcv_of hc57) (Nat.le_of_ble_eq_true rfl) (Nat.le_of_ble_eq_true rfl) (sf_X12_look hO51 (by omega) (fun w87 hr88 => ?_))
        obtain ⟨x89, rfl, t90⟩ := hr88
        show uRun _ (uCall Mt _) _ 15 (_, [(.inl x89)], _, _, _)
        refine ur_push rfl ?_
        refine ur_if2 rfl (fun c91 => ?_) (fun c91 => ?_)
        · have t92 := eq_to c91
          refine ur_ldA rfl rfl ?_
          refine ur_inl rfl (rcv_of hc57) (Nat.le_of_ble_eq_true rfl) (Nat.le_of_ble_eq_true rfl) (sf_X12_look hO51 (by omega) (fun w93 hr94 => ?_))
          obtain ⟨x95, rfl, t96⟩ := hr94
          show uRun _ (uCall Mt _) _ 42 (_, [(.inl x95)], _, _, _)
          refine ur_svIk [some (.inr (.inr (some 69))), some (.inl x95)] rfl rfl ?_
          refine ur_ldA rfl rfl ?_
          refine ur_dup rfl rfl ?_
          refine ur_get rfl hc57 p84 ?_
          have t97 : 0 ≤ f83.toInt ∧ f83.toInt ≤ 120 := by omega
          refine ur_push rfl ?_
          refine ur_binV rfl (fun x98 e99 => ?_)
          have z100 := any_r f83
          have t101 := ti_add e99 (by omega) (by omega)
          obtain ⟨f102, p103⟩ := mf_22 hO51 hc57
          have t104 := fI_of hc57 p103
          obtain ⟨f105, p106, t107⟩ := mf_23 hO51 hc57
          have t108 := fI_of hc57 p106
          refine ur_putM (W := []) rfl hO51 hc57 (by decide) rfl (ms_20 (hO51.msh hc57)) (Or.inl rfl) (fun h110 hO110 hv110 d109 hc111 => ?_)
          have hu110 : un [83, 84] h51 h110 := hv110.mono (by decide)
          have t112 := fI_of hc111 (gs_ne p80 (by decide))
          have t113 := fI_of hc111 (gs_eq p84)
          have t114 := fI_of hc111 (gs_ne p59 (by decide))
          have t115 := fI_of hc111 (gs_ne p103 (by decide))
          have t116 := fI_of hc111 (gs_ne p106 (by decide))
          refine ur_ldA rfl rfl ?_
          refine ur_inl rfl (rcv_of hc111) (Nat.le_of_ble_eq_true rfl) (Nat.le_of_ble_eq_true rfl) (rec hO110 (by omega) (by omega) (fun w117 h124 hr118 hO124 hv124 hp119 hp120 hp121 hp122 hp123 => ?_))
          have hu124 := hv124
          subst hr118
          show uRun _ (uCall Mt _) _ 57 (_, [], _, _, _)
          refine ur_ldA rfl rfl ?_
          refine ur_ldI rfl rfl ?_
          refine ur_push rfl ?_
          obtain ⟨fs125, hc126⟩ := hO124.mod
          obtain ⟨f127, p128, t129⟩ := mf_19 hO124 hc126
          have t130 := fI_of hc126 p128
          obtain ⟨f131, p132⟩ := mf_20 hO124 hc126
          have t133 := fI_of hc126 p132
          obtain ⟨f134, p135⟩ := mf_21 hO124 hc126
          have t136 := fI_of hc126 p135
          obtain ⟨f137, p138⟩ := mf_22 hO124 hc126
          have t139 := fI_of hc126 p138
          obtain ⟨f140, p141, t142⟩ := mf_23 hO124 hc126
          have t143 := fI_of hc126 p141
          have t144 := fI_keep (k := 19) hO110 hO124 hv124 rfl (by decide)
          refine ur_inl rfl (rcv_of hc126) (Nat.le_of_ble_eq_true rfl) (Nat.le_of_ble_eq_true rfl) (sf_X12_lay hO124 _ (by show 1 ≤ x95.toInt ∧ x95.toInt ≤ 124; omega) _ (by omega) (fun w145 h150 hr146 hO150 hv150 hp147 hp148 hp149 => ?_))
          have hu150 := hv150
          subst hr146
          show uRun _ (uCall Mt _) _ 63 (_, [], _, _, _)
          refine ur_go rfl ?_
          obtain ⟨fs151, hc152⟩ := hO150.mod
          obtain ⟨f153, p154, t155⟩ := mf_19 hO150 hc152
          have t156 := fI_of hc152 p154
          obtain ⟨f157, p158⟩ := mf_20 hO150 hc152
          have t159 := fI_of hc152 p158
          obtain ⟨f160, p161⟩ := mf_21 hO150 hc152
          have t162 := fI_of hc152 p161
          obtain ⟨f163, p164⟩ := mf_22 hO150 hc152
          have t165 := fI_of hc152 p164
          obtain ⟨f166, p167, t168⟩ := mf_23 hO150 hc152
          have t169 := fI_of hc152 p167
          exact ih31 _ _ hO150 (hu51.tr (hu110.tr (hu124.tr hu150))) (by omega) (kp.tr (n := (iL h0)) (kp.tr (n := (iL h0)) (kp.tr (n := (iL h0)) px52 (kp_un hO51 hv110 (by decide) (by decide) (iL h0)) (Nat.le_refl _)) hp122 (by unfold iL; omega)) hp148 (by unfold iL; omega)) (fun q => (bk_cast (bk_bin (px53 (by omega)) (kp.tr (n := (iL h51)) (kp.tr (n := (iL h51)) kp.rf (kp_un hO51 hv110 (by decide) (by decide) (iL h51)) (Nat.le_refl _)) hp122 (by unfold iL; omega)) (hp123 (by omega)) (by unfold iL; omega) (kp.tr (n := (iL h124)) kp.rf hp148 (by unfold iL; omega)) hp149 (by unfold iL; omega) (by omega) rfl (by unfold iL; omega) (by unfold iL; omega)) (by unfold iL; omega) (by unfold iL; omega))) (by omega)
        · have t170 := eq_no c91
          refine ur_ldA rfl rfl ?_
          refine ur_inl rfl (rcv_of hc57) (Nat.le_of_ble_eq_true rfl) (Nat.le_of_ble_eq_true rfl) (sf_X12_look hO51 (by omega) (fun w171 hr172 => ?_))
          obtain ⟨x173, rfl, t174⟩ := hr172
          show uRun _ (uCall Mt _) _ 24 (_, [(.inl x173)], _, _, _)
          refine ur_push rfl ?_
          refine ur_if2 rfl (fun c175 => ?_) (fun c175 => ?_)
          · have t176 := eq_to c175
            refine ur_ldA rfl rfl ?_
            refine ur_inl rfl (rcv_of hc57) (Nat.le_of_ble_eq_true rfl) (Nat.le_of_ble_eq_true rfl) (sf_X12_look hO51 (by omega) (fun w177 hr178 => ?_))
            obtain ⟨x179, rfl, t180⟩ := hr178
            show uRun _ (uCall Mt _) _ 42 (_, [(.inl x179)], _, _, _)
            refine ur_svIk [some (.inr (.inr (some 69))), some (.inl x179)] rfl rfl ?_
            refine ur_ldA rfl rfl ?_
            refine ur_dup rfl rfl ?_
            refine ur_get rfl hc57 p84 ?_
            have t181 : 0 ≤ f83.toInt ∧ f83.toInt ≤ 120 := by omega
            refine ur_push rfl ?_
            refine ur_binV rfl (fun x182 e183 => ?_)
            have z184 := any_r f83
            have t185 := ti_add e183 (by omega) (by omega)
            obtain ⟨f186, p187⟩ := mf_22 hO51 hc57
            have t188 := fI_of hc57 p187
            obtain ⟨f189, p190, t191⟩ := mf_23 hO51 hc57
            have t192 := fI_of hc57 p190
            refine ur_putM (W := []) rfl hO51 hc57 (by decide) rfl (ms_20 (hO51.msh hc57)) (Or.inl rfl) (fun h194 hO194 hv194 d193 hc195 => ?_)
            have hu194 : un [83, 84] h51 h194 := hv194.mono (by decide)
            have t196 := fI_of hc195 (gs_ne p80 (by decide))
            have t197 := fI_of hc195 (gs_eq p84)
            have t198 := fI_of hc195 (gs_ne p59 (by decide))
            have t199 := fI_of hc195 (gs_ne p187 (by decide))
            have t200 := fI_of hc195 (gs_ne p190 (by decide))
            refine ur_ldA rfl rfl ?_
            refine ur_inl rfl (rcv_of hc195) (Nat.le_of_ble_eq_true rfl) (Nat.le_of_ble_eq_true rfl) (rec hO194 (by omega) (by omega) (fun w201 h208 hr202 hO208 hv208 hp203 hp204 hp205 hp206 hp207 => ?_))
            have hu208 := hv208
            subst hr202
            show uRun _ (uCall Mt _) _ 57 (_, [], _, _, _)
            refine ur_ldA rfl rfl ?_
            refine ur_ldI rfl rfl ?_
            refine ur_push rfl ?_
            obtain ⟨fs209, hc210⟩ := hO208.mod
            obtain ⟨f211, p212, t213⟩ := mf_19 hO208 hc210
            have t214 := fI_of hc210 p212
            obtain ⟨f215, p216⟩ := mf_20 hO208 hc210
            have t217 := fI_of hc210 p216
            obtain ⟨f218, p219⟩ := mf_21 hO208 hc210
            have t220 := fI_of hc210 p219
            obtain ⟨f221, p222⟩ := mf_22 hO208 hc210
            have t223 := fI_of hc210 p222
            obtain ⟨f224, p225, t226⟩ := mf_23 hO208 hc210
            have t227 := fI_of hc210 p225
            have t228 := fI_keep (k := 19) hO194 hO208 hv208 rfl (by decide)
            refine ur_inl rfl (rcv_of hc210) (Nat.le_of_ble_eq_true rfl) (Nat.le_of_ble_eq_true rfl) (sf_X12_lay hO208 _ (by show 1 ≤ x179.toInt ∧ x179.toInt ≤ 124; omega) _ (by omega) (fun w229 h234 hr230 hO234 hv234 hp231 hp232 hp233 => ?_))
            have hu234 := hv234
            subst hr230
            show uRun _ (uCall Mt _) _ 63 (_, [], _, _, _)
            refine ur_go rfl ?_
            obtain ⟨fs235, hc236⟩ := hO234.mod
            obtain ⟨f237, p238, t239⟩ := mf_19 hO234 hc236
            have t240 := fI_of hc236 p238
            obtain ⟨f241, p242⟩ := mf_20 hO234 hc236
            have t243 := fI_of hc236 p242
            obtain ⟨f244, p245⟩ := mf_21 hO234 hc236
            have t246 := fI_of hc236 p245
            obtain ⟨f247, p248⟩ := mf_22 hO234 hc236
            have t249 := fI_of hc236 p248
            obtain ⟨f250, p251, t252⟩ := mf_23 hO234 hc236
            have t253 := fI_of hc236 p251
            exact ih31 _ _ hO234 (hu51.tr (hu194.tr (hu208.tr hu234))) (by omega) (kp.tr (n := (iL h0)) (kp.tr (n := (iL h0)) (kp.tr (n := (iL h0)) px52 (kp_un hO51 hv194 (by decide) (by decide) (iL h0)) (Nat.le_refl _)) hp206 (by unfold iL; omega)) hp232 (by unfold iL; omega)) (fun q => (bk_cast (bk_bin (px53 (by omega)) (kp.tr (n := (iL h51)) (kp.tr (n := (iL h51)) kp.rf (kp_un hO51 hv194 (by decide) (by decide) (iL h51)) (Nat.le_refl _)) hp206 (by unfold iL; omega)) (hp207 (by omega)) (by unfold iL; omega) (kp.tr (n := (iL h208)) kp.rf hp232 (by unfold iL; omega)) hp233 (by unfold iL; omega) (by omega) rfl (by unfold iL; omega) (by unfold iL; omega)) (by unfold iL; omega) (by unfold iL; omega))) (by omega)
          · have t254 := eq_no c175
            refine ur_ldA rfl rfl ?_
            refine ur_inl rfl (rcv_of hc57) (Nat.le_of_ble_eq_true rfl) (Nat.le_of_ble_eq_true rfl) (sf_X12_look hO51 (by omega) (fun w255 hr256 => ?_))
            obtain ⟨x257, rfl, t258⟩ := hr256
            show uRun _ (uCall Mt _) _ 33 (_, [(.inl x257)], _, _, _)
            refine ur_push rfl ?_
            refine ur_if2 rfl (fun c259 => ?_) (fun c259 => ?_)
            · have t260 := ne_to c259
              obtain ⟨f261, p262⟩ := mf_22 hO51 hc57
              have t263 := fI_of hc57 p262
              obtain ⟨f264, p265, t266⟩ := mf_23 hO51 hc57
              have t267 := fI_of hc57 p265
              exact ur_ret0 rfl (hQ _ _ rfl hO51 (hu27.tr hu51) (by omega) (by omega) (by omega) px52 (fun q => (bk_cast (px53 (by omega)) (by unfold iL; omega) (by unfold iL; omega))))
            · have t268 := ne_no c259
              refine ur_ldA rfl rfl ?_
              refine ur_inl rfl (rcv_of hc57) (Nat.le_of_ble_eq_true rfl) (Nat.le_of_ble_eq_true rfl) (sf_X12_look hO51 (by omega) (fun w269 hr270 => ?_))
              obtain ⟨x271, rfl, t272⟩ := hr270
              show uRun _ (uCall Mt _) _ 42 (_, [(.inl x271)], _, _, _)
              refine ur_svIk [some (.inr (.inr (some 69))), some (.inl x271)] rfl rfl ?_
              refine ur_ldA rfl rfl ?_
              refine ur_dup rfl rfl ?_
              refine ur_get rfl hc57 p84 ?_
              have t273 : 0 ≤ f83.toInt ∧ f83.toInt ≤ 120 := by omega
              refine ur_push rfl ?_
              refine ur_binV rfl (fun x274 e275 => ?_)
              have z276 := any_r f83
              have t277 := ti_add e275 (by omega) (by omega)
              obtain ⟨f278, p279⟩ := mf_22 hO51 hc57
              have t280 := fI_of hc57 p279
              obtain ⟨f281, p282, t283⟩ := mf_23 hO51 hc57
              have t284 := fI_of hc57 p282
              refine ur_putM (W := []) rfl hO51 hc57 (by decide) rfl (ms_20 (hO51.msh hc57)) (Or.inl rfl) (fun h286 hO286 hv286 d285 hc287 => ?_)
              have hu286 : un [83, 84] h51 h286 := hv286.mono (by decide)
              have t288 := fI_of hc287 (gs_ne p80 (by decide))
              have t289 := fI_of hc287 (gs_eq p84)
              have t290 := fI_of hc287 (gs_ne p59 (by decide))
              have t291 := fI_of hc287 (gs_ne p279 (by decide))
              have t292 := fI_of hc287 (gs_ne p282 (by decide))
              refine ur_ldA rfl rfl ?_
              refine ur_inl rfl (rcv_of hc287) (Nat.le_of_ble_eq_true rfl) (Nat.le_of_ble_eq_true rfl) (rec hO286 (by omega) (by omega) (fun w293 h300 hr294 hO300 hv300 hp295 hp296 hp297 hp298 hp299 => ?_))
              have hu300 := hv300
              subst hr294
              show uRun _ (uCall Mt _) _ 57 (_, [], _, _, _)
              refine ur_ldA rfl rfl ?_
              refine ur_ldI rfl rfl ?_
              refine ur_push rfl ?_
              obtain ⟨fs301, hc302⟩ := hO300.mod
              obtain ⟨f303, p304, t305⟩ := mf_19 hO300 hc302
              have t306 := fI_of hc302 p304
              obtain ⟨f307, p308⟩ := mf_20 hO300 hc302
              have t309 := fI_of hc302 p308
              obtain ⟨f310, p311⟩ := mf_21 hO300 hc302
              have t312 := fI_of hc302 p311
              obtain ⟨f313, p314⟩ := mf_22 hO300 hc302
              have t315 := fI_of hc302 p314
              obtain ⟨f316, p317, t318⟩ := mf_23 hO300 hc302
              have t319 := fI_of hc302 p317
              have t320 := fI_keep (k := 19) hO286 hO300 hv300 rfl (by decide)
              refine ur_inl rfl (rcv_of hc302) (Nat.le_of_ble_eq_true rfl) (Nat.le_of_ble_eq_true rfl) (sf_X12_lay hO300 _ (by show 1 ≤ x271.toInt ∧ x271.toInt ≤ 124; omega) _ (by omega) (fun w321 h326 hr322 hO326 hv326 hp323 hp324 hp325 => ?_))
              have hu326 := hv326
              subst hr322
              show uRun _ (uCall Mt _) _ 63 (_, [], _, _, _)
              refine ur_go rfl ?_
              obtain ⟨fs327, hc328⟩ := hO326.mod
              obtain ⟨f329, p330, t331⟩ := mf_19 hO326 hc328
              have t332 := fI_of hc328 p330
              obtain ⟨f333, p334⟩ := mf_20 hO326 hc328
              have t335 := fI_of hc328 p334
              obtain ⟨f336, p337⟩ := mf_21 hO326 hc328
              have t338 := fI_of hc328 p337
              obtain ⟨f339, p340⟩ := mf_22 hO326 hc328
              have t341 := fI_of hc328 p340
              obtain ⟨f342, p343, t344⟩ := mf_23 hO326 hc328
              have t345 := fI_of hc328 p343
              exact ih31 _ _ hO326 (hu51.tr (hu286.tr (hu300.tr hu326))) (by omega) (kp.tr (n := (iL h0)) (kp.tr (n := (iL h0)) (kp.tr (n := (iL h0)) px52 (kp_un hO51 hv286 (by decide) (by decide) (iL h0)) (Nat.le_refl _)) hp298 (by unfold iL; omega)) hp324 (by unfold iL; omega)) (fun q => (bk_cast (bk_bin (px53 (by omega)) (kp.tr (n := (iL h51)) (kp.tr (n := (iL h51)) kp.rf (kp_un hO51 hv286 (by decide) (by decide) (iL h51)) (Nat.le_refl _)) hp298 (by unfold iL; omega)) (hp299 (by omega)) (by unfold iL; omega) (kp.tr (n := (iL h300)) kp.rf hp324 (by unfold iL; omega)) hp325 (by unfold iL; omega) (by omega) rfl (by unfold iL; omega) (by unfold iL; omega)) (by unfold iL; omega) (by unfold iL; omega))) (by omega)
  exact L29 _ (none) _ hO27 un.rf (by omega) (kp.tr (n := (iL h0)) kp.rf hp25 (by unfold iL; omega)) (fun q => (bk_cast (hp26 (by omega)) (by unfold iL; omega) (by unfold iL; omega))) (Nat.lt_succ_self _)

set_option maxRecDepth 20000 in
set_option maxHeartbeats 4000000 in
theorem sf_X12_sum {d kc ks : Nat} {h0 : aH} {Q : Option aV → aH → Prop} (n : Nat) (rec : ∀ {kc ks : Nat} {h0 : aH} {Q : Option aV → aH → Prop}, OK h0 → (0 ≤ fI h0 20 ∧ fI h0 20 ≤ fI h0 19 ∧ fI h0 21 < 0 ∧ fI h0 23 ≤ fI h0 20) → (0 ≤ fI h0 22 ∧ fI h0 22 ≤ 6 ∧ 6 ≤ fI h0 22 + (n : Int)) → (∀ r h', (r = none) → OK h' → un [83, 84] h0 h' → (fI h0 20 ≤ fI h' 20 ∧ fI h' 20 ≤ fI h' 19 ∧ fI h' 19 = fI h0 19) → (fI h0 23 ≤ fI h' 23 ∧ fI h' 23 - fI h' 20 ≤ fI h0 23 - fI h0 20 + 1) → (fI h' 21 < 0 → fI h' 23 - fI h' 20 ≤ fI h0 23 - fI h0 20 ∧ fI h' 22 = fI h0 22 ∧ fI h0 23 < fI h' 23) → (kp h0 h' (iL h0)) → (fI h' 21 < 0 → bk h' (iL h0) (iL h')) → Q r h') → uCall Mt (d + 4) 219 [(.inr (.inr (some 69)))] h0 kc ks Q) (hO0 : OK h0)  (pre0 : 0 ≤ fI h0 20 ∧ fI h0 20 ≤ fI h0 19 ∧ fI h0 21 < 0 ∧ fI h0 23 ≤ fI h0 20) (pre1 : 0 ≤ fI h0 22 ∧ fI h0 22 ≤ 6 ∧ 6 ≤ fI h0 22 + (n : Int)) (hQ : ∀ r h', (r = none) → OK h' → un [83, 84] h0 h' → (fI h0 20 ≤ fI h' 20 ∧ fI h' 20 ≤ fI h' 19 ∧ fI h' 19 = fI h0 19) → (fI h0 23 ≤ fI h' 23 ∧ fI h' 23 - fI h' 20 ≤ fI h0 23 - fI h0 20 + 1) → (fI h' 21 < 0 → fI h' 23 - fI h' 20 ≤ fI h0 23 - fI h0 20 ∧ fI h' 22 = fI h0 22 ∧ fI h0 23 < fI h' 23) → (kp h0 h' (iL h0)) → (fI h' 21 < 0 → bk h' (iL h0) (iL h')) → Q r h') : uCall Mt (d + 6) 221 [(.inr (.inr (some 69)))] h0 kc ks Q := by
  have l_0 : ((0) : Int32).toInt = 0 := by decide
  have l_1 : ((1) : Int32).toInt = 1 := by decide
  have l_43 : ((43) : Int32).toInt = 43 := by decide
  have l_45 : ((45) : Int32).toInt = 45 := by decide
  refine uc_ink [some (.inr (.inr (some 69))), none] mt_221 (Nat.le_of_ble_eq_true rfl) rfl ?_
  obtain ⟨fs1, hc2⟩ := hO0.mod
  obtain ⟨f3, p4, t5⟩ := mf_19 hO0 hc2
  have t6 := fI_of hc2 p4
  obtain ⟨f7, p8⟩ := mf_20 hO0 hc2
  have t9 := fI_of hc2 p8
  obtain ⟨f10, p11⟩ := mf_21 hO0 hc2
  have t12 := fI_of hc2 p11
  obtain ⟨f13, p14⟩ := mf_22 hO0 hc2
  have t15 := fI_of hc2 p14
  obtain ⟨f16, p17, t18⟩ := mf_23 hO0 hc2
  have t19 := fI_of hc2 p17
  refine ur_ldA rfl rfl ?_
  refine ur_inl rfl (rcv_of hc2) (Nat.le_of_ble_eq_true rfl) (Nat.le_of_ble_eq_true rfl) (sf_X12_product n rec hO0 (by omega) (by omega) (fun w20 h27 hr21 hO27 hv27 hp22 hp23 hp24 hp25 hp26 => ?_))
  have hu27 := hv27
  subst hr21
  show uRun _ (uCall Mt _) _ 4 (_, [], _, _, _)
  obtain ⟨fs32, hc33⟩ := hO27.mod
  obtain ⟨f34, p35, t36⟩ := mf_19 hO27 hc33
  have t37 := fI_of hc33 p35
  obtain ⟨f38, p39⟩ := mf_20 hO27 hc33
  have t40 := fI_of hc33 p39
  obtain ⟨f41, p42⟩ := mf_21 hO27 hc33
  have t43 := fI_of hc33 p42
  obtain ⟨f44, p45⟩ := mf_22 hO27 hc33
  have t46 := fI_of hc33 p45
  obtain ⟨f47, p48, t49⟩ := mf_23 hO27 hc33
  have t50 := fI_of hc33 p48
  have L29 : ∀ (m30 : Nat) (u28 : Option aV) (h51 : aH) , OK h51 → un [83, 84] h27 h51 → ((fI h0 20 ≤ fI h51 20 ∧ fI h51 20 ≤ fI h51 19 ∧ fI h51 19 = fI h0 19) ∧ (fI h0 23 ≤ fI h51 23 ∧ fI h51 23 - fI h51 20 ≤ fI h0 23 - fI h0 20 + 1) ∧ (fI h51 21 < 0 → fI h51 23 - fI h51 20 ≤ fI h0 23 - fI h0 20 ∧ fI h51 22 = fI h0 22 ∧ fI h0 23 < fI h51 23)) → (kp h0 h51 (iL h0)) → (fI h51 21 < 0 → bk h51 (iL h0) (iL h51)) → ((121 - fI h51 20).toNat) < m30 → uRun oX12_sum (uCall Mt (d + 5)) Q 4 ([some (.inr (.inr (some 69))), u28], [], h51, kc, ks) := by
    intro m30
    induction m30 with
    | zero => intro u28 h51 hO51 hu51 iv54 px52 px53 mm55; omega
    | succ m30 ih31 =>
      intro u28 h51 hO51 hu51 iv54 px52 px53 mm55
      refine ur_ldA rfl rfl ?_
      obtain ⟨fs56, hc57⟩ := hO51.mod
      obtain ⟨f58, p59⟩ := mf_21 hO51 hc57
      have t60 := fI_of hc57 p59
      refine ur_get rfl hc57 p59 ?_
      refine ur_if1 rfl (fun c61 => ?_) (fun c61 => ?_)
      · have t62 := le_to c61
        obtain ⟨f63, p64, t65⟩ := mf_19 hO51 hc57
        have t66 := fI_of hc57 p64
        obtain ⟨f67, p68⟩ := mf_20 hO51 hc57
        have t69 := fI_of hc57 p68
        obtain ⟨f70, p71⟩ := mf_22 hO51 hc57
        have t72 := fI_of hc57 p71
        obtain ⟨f73, p74, t75⟩ := mf_23 hO51 hc57
        have t76 := fI_of hc57 p74
        have t77 := fI_keep (k := 19) hO0 hO27 hv27 rfl (by decide)
        exact ur_ret0 rfl (hQ _ _ rfl hO51 (hu27.tr hu51) (by omega) (by omega) (by omega) px52 (fun q => (bk_cast (px53 (by omega)) (by unfold iL; omega) (by unfold iL; omega))))
      · have t78 := le_no c61
        refine ur_ldA rfl rfl ?_
        obtain ⟨f79, p80, t81⟩ := mf_19 hO51 hc57
        have t82 := fI_of hc57 p80
        obtain ⟨f83, p84⟩ := mf_20 hO51 hc57
        have t85 := fI_of hc57 p84
        have t86 := fI_keep (k := 19) hO0 hO27 hv27 rfl (by decide)
        refine ur_inl rfl (rcv_of hc57) (Nat.le_of_ble_eq_true rfl) (Nat.le_of_ble_eq_true rfl) (sf_X12_look hO51 (by omega) (fun w87 hr88 => ?_))
        obtain ⟨x89, rfl, t90⟩ := hr88
        show uRun _ (uCall Mt _) _ 15 (_, [(.inl x89)], _, _, _)
        refine ur_push rfl ?_
        refine ur_if2 rfl (fun c91 => ?_) (fun c91 => ?_)
        · have t92 := eq_to c91
          refine ur_ldA rfl rfl ?_
          refine ur_inl rfl (rcv_of hc57) (Nat.le_of_ble_eq_true rfl) (Nat.le_of_ble_eq_true rfl) (sf_X12_look hO51 (by omega) (fun w93 hr94 => ?_))
          obtain ⟨x95, rfl, t96⟩ := hr94
          show uRun _ (uCall Mt _) _ 33 (_, [(.inl x95)], _, _, _)
          refine ur_svIk [some (.inr (.inr (some 69))), some (.inl x95)] rfl rfl ?_
          refine ur_ldA rfl rfl ?_
          refine ur_dup rfl rfl ?_
          refine ur_get rfl hc57 p84 ?_
          have t97 : 0 ≤ f83.toInt ∧ f83.toInt ≤ 120 := by omega
          refine ur_push rfl ?_
          refine ur_binV rfl (fun x98 e99 => ?_)
          have z100 := any_r f83
          have t101 := ti_add e99 (by omega) (by omega)
          obtain ⟨f102, p103⟩ := mf_22 hO51 hc57
          have t104 := fI_of hc57 p103
          obtain ⟨f105, p106, t107⟩ := mf_23 hO51 hc57
          have t108 := fI_of hc57 p106
          refine ur_putM (W := []) rfl hO51 hc57 (by decide) rfl (ms_20 (hO51.msh hc57)) (Or.inl rfl) (fun h110 hO110 hv110 d109 hc111 => ?_)
          have hu110 : un [83, 84] h51 h110 := hv110.mono (by decide)
          have t112 := fI_of hc111 (gs_ne p80 (by decide))
          have t113 := fI_of hc111 (gs_eq p84)
          have t114 := fI_of hc111 (gs_ne p59 (by decide))
          have t115 := fI_of hc111 (gs_ne p103 (by decide))
          have t116 := fI_of hc111 (gs_ne p106 (by decide))
          refine ur_ldA rfl rfl ?_
          refine ur_inl rfl (rcv_of hc111) (Nat.le_of_ble_eq_true rfl) (Nat.le_of_ble_eq_true rfl) (sf_X12_product n rec hO110 (by omega) (by omega) (fun w117 h124 hr118 hO124 hv124 hp119 hp120 hp121 hp122 hp123 => ?_))
          have hu124 := hv124
          subst hr118
          show uRun _ (uCall Mt _) _ 48 (_, [], _, _, _)
          refine ur_ldA rfl rfl ?_
          refine ur_ldI rfl rfl ?_
          refine ur_push rfl ?_
          obtain ⟨fs125, hc126⟩ := hO124.mod
          obtain ⟨f127, p128, t129⟩ := mf_19 hO124 hc126
          have t130 := fI_of hc126 p128
          obtain ⟨f131, p132⟩ := mf_20 hO124 hc126
          have t133 := fI_of hc126 p132
          obtain ⟨f134, p135⟩ := mf_21 hO124 hc126
          have t136 := fI_of hc126 p135
          obtain ⟨f137, p138⟩ := mf_22 hO124 hc126
          have t139 := fI_of hc126 p138
          obtain ⟨f140, p141, t142⟩ := mf_23 hO124 hc126
          have t143 := fI_of hc126 p141
          have t144 := fI_keep (k := 19) hO110 hO124 hv124 rfl (by decide)
          refine ur_inl rfl (rcv_of hc126) (Nat.le_of_ble_eq_true rfl) (Nat.le_of_ble_eq_true rfl) (sf_X12_lay hO124 _ (by show 1 ≤ x95.toInt ∧ x95.toInt ≤ 124; omega) _ (by omega) (fun w145 h150 hr146 hO150 hv150 hp147 hp148 hp149 => ?_))
          have hu150 := hv150
          subst hr146
          show uRun _ (uCall Mt _) _ 54 (_, [], _, _, _)
          refine ur_go rfl ?_
          obtain ⟨fs151, hc152⟩ := hO150.mod
          obtain ⟨f153, p154, t155⟩ := mf_19 hO150 hc152
          have t156 := fI_of hc152 p154
          obtain ⟨f157, p158⟩ := mf_20 hO150 hc152
          have t159 := fI_of hc152 p158
          obtain ⟨f160, p161⟩ := mf_21 hO150 hc152
          have t162 := fI_of hc152 p161
          obtain ⟨f163, p164⟩ := mf_22 hO150 hc152
          have t165 := fI_of hc152 p164
          obtain ⟨f166, p167, t168⟩ := mf_23 hO150 hc152
          have t169 := fI_of hc152 p167
          exact ih31 _ _ hO150 (hu51.tr (hu110.tr (hu124.tr hu150))) (by omega) (kp.tr (n := (iL h0)) (kp.tr (n := (iL h0)) (kp.tr (n := (iL h0)) px52 (kp_un hO51 hv110 (by decide) (by decide) (iL h0)) (Nat.le_refl _)) hp122 (by unfold iL; omega)) hp148 (by unfold iL; omega)) (fun q => (bk_cast (bk_bin (px53 (by omega)) (kp.tr (n := (iL h51)) (kp.tr (n := (iL h51)) kp.rf (kp_un hO51 hv110 (by decide) (by decide) (iL h51)) (Nat.le_refl _)) hp122 (by unfold iL; omega)) (hp123 (by omega)) (by unfold iL; omega) (kp.tr (n := (iL h124)) kp.rf hp148 (by unfold iL; omega)) hp149 (by unfold iL; omega) (by omega) rfl (by unfold iL; omega) (by unfold iL; omega)) (by unfold iL; omega) (by unfold iL; omega))) (by omega)
        · have t170 := eq_no c91
          refine ur_ldA rfl rfl ?_
          refine ur_inl rfl (rcv_of hc57) (Nat.le_of_ble_eq_true rfl) (Nat.le_of_ble_eq_true rfl) (sf_X12_look hO51 (by omega) (fun w171 hr172 => ?_))
          obtain ⟨x173, rfl, t174⟩ := hr172
          show uRun _ (uCall Mt _) _ 24 (_, [(.inl x173)], _, _, _)
          refine ur_push rfl ?_
          refine ur_if2 rfl (fun c175 => ?_) (fun c175 => ?_)
          · have t176 := ne_to c175
            obtain ⟨f177, p178⟩ := mf_22 hO51 hc57
            have t179 := fI_of hc57 p178
            obtain ⟨f180, p181, t182⟩ := mf_23 hO51 hc57
            have t183 := fI_of hc57 p181
            exact ur_ret0 rfl (hQ _ _ rfl hO51 (hu27.tr hu51) (by omega) (by omega) (by omega) px52 (fun q => (bk_cast (px53 (by omega)) (by unfold iL; omega) (by unfold iL; omega))))
          · have t184 := ne_no c175
            refine ur_ldA rfl rfl ?_
            refine ur_inl rfl (rcv_of hc57) (Nat.le_of_ble_eq_true rfl) (Nat.le_of_ble_eq_true rfl) (sf_X12_look hO51 (by omega) (fun w185 hr186 => ?_))
            obtain ⟨x187, rfl, t188⟩ := hr186
            show uRun _ (uCall Mt _) _ 33 (_, [(.inl x187)], _, _, _)
            refine ur_svIk [some (.inr (.inr (some 69))), some (.inl x187)] rfl rfl ?_
            refine ur_ldA rfl rfl ?_
            refine ur_dup rfl rfl ?_
            refine ur_get rfl hc57 p84 ?_
            have t189 : 0 ≤ f83.toInt ∧ f83.toInt ≤ 120 := by omega
            refine ur_push rfl ?_
            refine ur_binV rfl (fun x190 e191 => ?_)
            have z192 := any_r f83
            have t193 := ti_add e191 (by omega) (by omega)
            obtain ⟨f194, p195⟩ := mf_22 hO51 hc57
            have t196 := fI_of hc57 p195
            obtain ⟨f197, p198, t199⟩ := mf_23 hO51 hc57
            have t200 := fI_of hc57 p198
            refine ur_putM (W := []) rfl hO51 hc57 (by decide) rfl (ms_20 (hO51.msh hc57)) (Or.inl rfl) (fun h202 hO202 hv202 d201 hc203 => ?_)
            have hu202 : un [83, 84] h51 h202 := hv202.mono (by decide)
            have t204 := fI_of hc203 (gs_ne p80 (by decide))
            have t205 := fI_of hc203 (gs_eq p84)
            have t206 := fI_of hc203 (gs_ne p59 (by decide))
            have t207 := fI_of hc203 (gs_ne p195 (by decide))
            have t208 := fI_of hc203 (gs_ne p198 (by decide))
            refine ur_ldA rfl rfl ?_
            refine ur_inl rfl (rcv_of hc203) (Nat.le_of_ble_eq_true rfl) (Nat.le_of_ble_eq_true rfl) (sf_X12_product n rec hO202 (by omega) (by omega) (fun w209 h216 hr210 hO216 hv216 hp211 hp212 hp213 hp214 hp215 => ?_))
            have hu216 := hv216
            subst hr210
            show uRun _ (uCall Mt _) _ 48 (_, [], _, _, _)
            refine ur_ldA rfl rfl ?_
            refine ur_ldI rfl rfl ?_
            refine ur_push rfl ?_
            obtain ⟨fs217, hc218⟩ := hO216.mod
            obtain ⟨f219, p220, t221⟩ := mf_19 hO216 hc218
            have t222 := fI_of hc218 p220
            obtain ⟨f223, p224⟩ := mf_20 hO216 hc218
            have t225 := fI_of hc218 p224
            obtain ⟨f226, p227⟩ := mf_21 hO216 hc218
            have t228 := fI_of hc218 p227
            obtain ⟨f229, p230⟩ := mf_22 hO216 hc218
            have t231 := fI_of hc218 p230
            obtain ⟨f232, p233, t234⟩ := mf_23 hO216 hc218
            have t235 := fI_of hc218 p233
            have t236 := fI_keep (k := 19) hO202 hO216 hv216 rfl (by decide)
            refine ur_inl rfl (rcv_of hc218) (Nat.le_of_ble_eq_true rfl) (Nat.le_of_ble_eq_true rfl) (sf_X12_lay hO216 _ (by show 1 ≤ x187.toInt ∧ x187.toInt ≤ 124; omega) _ (by omega) (fun w237 h242 hr238 hO242 hv242 hp239 hp240 hp241 => ?_))
            have hu242 := hv242
            subst hr238
            show uRun _ (uCall Mt _) _ 54 (_, [], _, _, _)
            refine ur_go rfl ?_
            obtain ⟨fs243, hc244⟩ := hO242.mod
            obtain ⟨f245, p246, t247⟩ := mf_19 hO242 hc244
            have t248 := fI_of hc244 p246
            obtain ⟨f249, p250⟩ := mf_20 hO242 hc244
            have t251 := fI_of hc244 p250
            obtain ⟨f252, p253⟩ := mf_21 hO242 hc244
            have t254 := fI_of hc244 p253
            obtain ⟨f255, p256⟩ := mf_22 hO242 hc244
            have t257 := fI_of hc244 p256
            obtain ⟨f258, p259, t260⟩ := mf_23 hO242 hc244
            have t261 := fI_of hc244 p259
            exact ih31 _ _ hO242 (hu51.tr (hu202.tr (hu216.tr hu242))) (by omega) (kp.tr (n := (iL h0)) (kp.tr (n := (iL h0)) (kp.tr (n := (iL h0)) px52 (kp_un hO51 hv202 (by decide) (by decide) (iL h0)) (Nat.le_refl _)) hp214 (by unfold iL; omega)) hp240 (by unfold iL; omega)) (fun q => (bk_cast (bk_bin (px53 (by omega)) (kp.tr (n := (iL h51)) (kp.tr (n := (iL h51)) kp.rf (kp_un hO51 hv202 (by decide) (by decide) (iL h51)) (Nat.le_refl _)) hp214 (by unfold iL; omega)) (hp215 (by omega)) (by unfold iL; omega) (kp.tr (n := (iL h216)) kp.rf hp240 (by unfold iL; omega)) hp241 (by unfold iL; omega) (by omega) rfl (by unfold iL; omega) (by unfold iL; omega)) (by unfold iL; omega) (by unfold iL; omega))) (by omega)
  exact L29 _ (none) _ hO27 un.rf (by omega) (kp.tr (n := (iL h0)) kp.rf hp25 (by unfold iL; omega)) (fun q => (bk_cast (hp26 (by omega)) (by unfold iL; omega) (by unfold iL; omega))) (Nat.lt_succ_self _)

set_option maxRecDepth 20000 in
set_option maxHeartbeats 4000000 in
theorem sf_X12_compared {d kc ks : Nat} {h0 : aH} {Q : Option aV → aH → Prop} (n : Nat) (rec : ∀ {kc ks : Nat} {h0 : aH} {Q : Option aV → aH → Prop}, OK h0 → (0 ≤ fI h0 20 ∧ fI h0 20 ≤ fI h0 19 ∧ fI h0 21 < 0 ∧ fI h0 23 ≤ fI h0 20) → (0 ≤ fI h0 22 ∧ fI h0 22 ≤ 6 ∧ 6 ≤ fI h0 22 + (n : Int)) → (∀ r h', (r = none) → OK h' → un [83, 84] h0 h' → (fI h0 20 ≤ fI h' 20 ∧ fI h' 20 ≤ fI h' 19 ∧ fI h' 19 = fI h0 19) → (fI h0 23 ≤ fI h' 23 ∧ fI h' 23 - fI h' 20 ≤ fI h0 23 - fI h0 20 + 1) → (fI h' 21 < 0 → fI h' 23 - fI h' 20 ≤ fI h0 23 - fI h0 20 ∧ fI h' 22 = fI h0 22 ∧ fI h0 23 < fI h' 23) → (kp h0 h' (iL h0)) → (fI h' 21 < 0 → bk h' (iL h0) (iL h')) → Q r h') → uCall Mt (d + 4) 219 [(.inr (.inr (some 69)))] h0 kc ks Q) (hO0 : OK h0)  (pre0 : 0 ≤ fI h0 20 ∧ fI h0 20 ≤ fI h0 19 ∧ fI h0 21 < 0 ∧ fI h0 23 ≤ fI h0 20) (pre1 : 0 ≤ fI h0 22 ∧ fI h0 22 ≤ 6 ∧ 6 ≤ fI h0 22 + (n : Int)) (hQ : ∀ r h', (r = none) → OK h' → un [83, 84] h0 h' → (fI h0 20 ≤ fI h' 20 ∧ fI h' 20 ≤ fI h' 19 ∧ fI h' 19 = fI h0 19) → (fI h0 23 ≤ fI h' 23 ∧ fI h' 23 - fI h' 20 ≤ fI h0 23 - fI h0 20 + 1) → (fI h' 21 < 0 → fI h' 23 - fI h' 20 ≤ fI h0 23 - fI h0 20 ∧ fI h' 22 = fI h0 22 ∧ fI h0 23 < fI h' 23) → (kp h0 h' (iL h0)) → (fI h' 21 < 0 → bk h' (iL h0) (iL h')) → Q r h') : uCall Mt (d + 7) 222 [(.inr (.inr (some 69)))] h0 kc ks Q := by
  have l_0 : ((0) : Int32).toInt = 0 := by decide
  have l_1 : ((1) : Int32).toInt = 1 := by decide
  have l_60 : ((60) : Int32).toInt = 60 := by decide
  have l_61 : ((61) : Int32).toInt = 61 := by decide
  have l_62 : ((62) : Int32).toInt = 62 := by decide
  refine uc_ink [some (.inr (.inr (some 69))), none] mt_222 (Nat.le_of_ble_eq_true rfl) rfl ?_
  obtain ⟨fs1, hc2⟩ := hO0.mod
  obtain ⟨f3, p4, t5⟩ := mf_19 hO0 hc2
  have t6 := fI_of hc2 p4
  obtain ⟨f7, p8⟩ := mf_20 hO0 hc2
  have t9 := fI_of hc2 p8
  obtain ⟨f10, p11⟩ := mf_21 hO0 hc2
  have t12 := fI_of hc2 p11
  obtain ⟨f13, p14⟩ := mf_22 hO0 hc2
  have t15 := fI_of hc2 p14
  obtain ⟨f16, p17, t18⟩ := mf_23 hO0 hc2
  have t19 := fI_of hc2 p17
  refine ur_ldA rfl rfl ?_
  refine ur_inl rfl (rcv_of hc2) (Nat.le_of_ble_eq_true rfl) (Nat.le_of_ble_eq_true rfl) (sf_X12_sum n rec hO0 (by omega) (by omega) (fun w20 h27 hr21 hO27 hv27 hp22 hp23 hp24 hp25 hp26 => ?_))
  have hu27 := hv27
  subst hr21
  show uRun _ (uCall Mt _) _ 4 (_, [], _, _, _)
  refine ur_ldA rfl rfl ?_
  obtain ⟨fs28, hc29⟩ := hO27.mod
  obtain ⟨f30, p31, t32⟩ := mf_19 hO27 hc29
  have t33 := fI_of hc29 p31
  obtain ⟨f34, p35⟩ := mf_20 hO27 hc29
  have t36 := fI_of hc29 p35
  have t37 := fI_keep (k := 19) hO0 hO27 hv27 rfl (by decide)
  refine ur_inl rfl (rcv_of hc29) (Nat.le_of_ble_eq_true rfl) (Nat.le_of_ble_eq_true rfl) (sf_X12_look hO27 (by omega) (fun w38 hr39 => ?_))
  obtain ⟨x40, rfl, t41⟩ := hr39
  show uRun _ (uCall Mt _) _ 8 (_, [(.inl x40)], _, _, _)
  refine ur_svIk [some (.inr (.inr (some 69))), some (.inl x40)] rfl rfl ?_
  refine ur_ldA rfl rfl ?_
  obtain ⟨f42, p43⟩ := mf_21 hO27 hc29
  have t44 := fI_of hc29 p43
  refine ur_get rfl hc29 p43 ?_
  refine ur_if1 rfl (fun c45 => ?_) (fun c45 => ?_)
  · have t46 := le_to c45
    obtain ⟨f47, p48⟩ := mf_22 hO27 hc29
    have t49 := fI_of hc29 p48
    obtain ⟨f50, p51, t52⟩ := mf_23 hO27 hc29
    have t53 := fI_of hc29 p51
    exact ur_ret0 rfl (hQ _ _ rfl hO27 hu27 (by omega) (by omega) (by omega) (kp.tr (n := (iL h0)) kp.rf hp25 (by unfold iL; omega)) (fun q => (bk_cast (hp26 (by omega)) (by unfold iL; omega) (by unfold iL; omega))))
  · have t54 := le_no c45
    refine ur_ldI rfl rfl ?_
    refine ur_push rfl ?_
    refine ur_if2 rfl (fun c55 => ?_) (fun c55 => ?_)
    · have t56 := eq_to c55
      refine ur_ldA rfl rfl ?_
      refine ur_dup rfl rfl ?_
      refine ur_get rfl hc29 p35 ?_
      have t57 : 0 ≤ f34.toInt ∧ f34.toInt ≤ 120 := by omega
      refine ur_push rfl ?_
      refine ur_binV rfl (fun x58 e59 => ?_)
      have z60 := any_r f34
      have t61 := ti_add e59 (by omega) (by omega)
      obtain ⟨f62, p63⟩ := mf_22 hO27 hc29
      have t64 := fI_of hc29 p63
      obtain ⟨f65, p66, t67⟩ := mf_23 hO27 hc29
      have t68 := fI_of hc29 p66
      refine ur_putM (W := []) rfl hO27 hc29 (by decide) rfl (ms_20 (hO27.msh hc29)) (Or.inl rfl) (fun h70 hO70 hv70 d69 hc71 => ?_)
      have hu70 : un [83, 84] h27 h70 := hv70.mono (by decide)
      have t72 := fI_of hc71 (gs_ne p31 (by decide))
      have t73 := fI_of hc71 (gs_eq p35)
      have t74 := fI_of hc71 (gs_ne p43 (by decide))
      have t75 := fI_of hc71 (gs_ne p63 (by decide))
      have t76 := fI_of hc71 (gs_ne p66 (by decide))
      refine ur_ldA rfl rfl ?_
      refine ur_inl rfl (rcv_of hc71) (Nat.le_of_ble_eq_true rfl) (Nat.le_of_ble_eq_true rfl) (sf_X12_sum n rec hO70 (by omega) (by omega) (fun w77 h84 hr78 hO84 hv84 hp79 hp80 hp81 hp82 hp83 => ?_))
      have hu84 := hv84
      subst hr78
      show uRun _ (uCall Mt _) _ 49 (_, [], _, _, _)
      refine ur_ldA rfl rfl ?_
      refine ur_ldI rfl rfl ?_
      refine ur_push rfl ?_
      obtain ⟨fs85, hc86⟩ := hO84.mod
      obtain ⟨f87, p88, t89⟩ := mf_19 hO84 hc86
      have t90 := fI_of hc86 p88
      obtain ⟨f91, p92⟩ := mf_20 hO84 hc86
      have t93 := fI_of hc86 p92
      obtain ⟨f94, p95⟩ := mf_21 hO84 hc86
      have t96 := fI_of hc86 p95
      obtain ⟨f97, p98⟩ := mf_22 hO84 hc86
      have t99 := fI_of hc86 p98
      obtain ⟨f100, p101, t102⟩ := mf_23 hO84 hc86
      have t103 := fI_of hc86 p101
      have t104 := fI_keep (k := 19) hO70 hO84 hv84 rfl (by decide)
      refine ur_inl rfl (rcv_of hc86) (Nat.le_of_ble_eq_true rfl) (Nat.le_of_ble_eq_true rfl) (sf_X12_lay hO84 _ (by show 1 ≤ x40.toInt ∧ x40.toInt ≤ 124; omega) _ (by omega) (fun w105 h110 hr106 hO110 hv110 hp107 hp108 hp109 => ?_))
      have hu110 := hv110
      subst hr106
      show uRun _ (uCall Mt _) _ 55 (_, [], _, _, _)
      obtain ⟨fs111, hc112⟩ := hO110.mod
      obtain ⟨f113, p114, t115⟩ := mf_19 hO110 hc112
      have t116 := fI_of hc112 p114
      obtain ⟨f117, p118⟩ := mf_20 hO110 hc112
      have t119 := fI_of hc112 p118
      obtain ⟨f120, p121⟩ := mf_21 hO110 hc112
      have t122 := fI_of hc112 p121
      obtain ⟨f123, p124⟩ := mf_22 hO110 hc112
      have t125 := fI_of hc112 p124
      obtain ⟨f126, p127, t128⟩ := mf_23 hO110 hc112
      have t129 := fI_of hc112 p127
      have t130 := fI_keep (k := 19) hO84 hO110 hv110 rfl (by decide)
      exact ur_ret0 rfl (hQ _ _ rfl hO110 (hu27.tr (hu70.tr (hu84.tr hu110))) (by omega) (by omega) (by omega) (kp.tr (n := (iL h0)) (kp.tr (n := (iL h0)) (kp.tr (n := (iL h0)) (kp.tr (n := (iL h0)) kp.rf hp25 (by unfold iL; omega)) (kp_un hO27 hv70 (by decide) (by decide) (iL h0)) (Nat.le_refl _)) hp82 (by unfold iL; omega)) hp108 (by unfold iL; omega)) (fun q => (bk_cast (bk_bin (hp26 (by omega)) (kp.tr (n := (iL h27)) (kp.tr (n := (iL h27)) kp.rf (kp_un hO27 hv70 (by decide) (by decide) (iL h27)) (Nat.le_refl _)) hp82 (by unfold iL; omega)) (hp83 (by omega)) (by unfold iL; omega) (kp.tr (n := (iL h84)) kp.rf hp108 (by unfold iL; omega)) hp109 (by unfold iL; omega) (by omega) rfl (by unfold iL; omega) (by unfold iL; omega)) (by unfold iL; omega) (by unfold iL; omega))))
    · have t131 := eq_no c55
      refine ur_ldI rfl rfl ?_
      refine ur_push rfl ?_
      refine ur_if2 rfl (fun c132 => ?_) (fun c132 => ?_)
      · have t133 := eq_to c132
        refine ur_ldA rfl rfl ?_
        refine ur_dup rfl rfl ?_
        refine ur_get rfl hc29 p35 ?_
        have t134 : 0 ≤ f34.toInt ∧ f34.toInt ≤ 120 := by omega
        refine ur_push rfl ?_
        refine ur_binV rfl (fun x135 e136 => ?_)
        have z137 := any_r f34
        have t138 := ti_add e136 (by omega) (by omega)
        obtain ⟨f139, p140⟩ := mf_22 hO27 hc29
        have t141 := fI_of hc29 p140
        obtain ⟨f142, p143, t144⟩ := mf_23 hO27 hc29
        have t145 := fI_of hc29 p143
        refine ur_putM (W := []) rfl hO27 hc29 (by decide) rfl (ms_20 (hO27.msh hc29)) (Or.inl rfl) (fun h147 hO147 hv147 d146 hc148 => ?_)
        have hu147 : un [83, 84] h27 h147 := hv147.mono (by decide)
        have t149 := fI_of hc148 (gs_ne p31 (by decide))
        have t150 := fI_of hc148 (gs_eq p35)
        have t151 := fI_of hc148 (gs_ne p43 (by decide))
        have t152 := fI_of hc148 (gs_ne p140 (by decide))
        have t153 := fI_of hc148 (gs_ne p143 (by decide))
        refine ur_ldA rfl rfl ?_
        refine ur_inl rfl (rcv_of hc148) (Nat.le_of_ble_eq_true rfl) (Nat.le_of_ble_eq_true rfl) (sf_X12_sum n rec hO147 (by omega) (by omega) (fun w154 h161 hr155 hO161 hv161 hp156 hp157 hp158 hp159 hp160 => ?_))
        have hu161 := hv161
        subst hr155
        show uRun _ (uCall Mt _) _ 49 (_, [], _, _, _)
        refine ur_ldA rfl rfl ?_
        refine ur_ldI rfl rfl ?_
        refine ur_push rfl ?_
        obtain ⟨fs162, hc163⟩ := hO161.mod
        obtain ⟨f164, p165, t166⟩ := mf_19 hO161 hc163
        have t167 := fI_of hc163 p165
        obtain ⟨f168, p169⟩ := mf_20 hO161 hc163
        have t170 := fI_of hc163 p169
        obtain ⟨f171, p172⟩ := mf_21 hO161 hc163
        have t173 := fI_of hc163 p172
        obtain ⟨f174, p175⟩ := mf_22 hO161 hc163
        have t176 := fI_of hc163 p175
        obtain ⟨f177, p178, t179⟩ := mf_23 hO161 hc163
        have t180 := fI_of hc163 p178
        have t181 := fI_keep (k := 19) hO147 hO161 hv161 rfl (by decide)
        refine ur_inl rfl (rcv_of hc163) (Nat.le_of_ble_eq_true rfl) (Nat.le_of_ble_eq_true rfl) (sf_X12_lay hO161 _ (by show 1 ≤ x40.toInt ∧ x40.toInt ≤ 124; omega) _ (by omega) (fun w182 h187 hr183 hO187 hv187 hp184 hp185 hp186 => ?_))
        have hu187 := hv187
        subst hr183
        show uRun _ (uCall Mt _) _ 55 (_, [], _, _, _)
        obtain ⟨fs188, hc189⟩ := hO187.mod
        obtain ⟨f190, p191, t192⟩ := mf_19 hO187 hc189
        have t193 := fI_of hc189 p191
        obtain ⟨f194, p195⟩ := mf_20 hO187 hc189
        have t196 := fI_of hc189 p195
        obtain ⟨f197, p198⟩ := mf_21 hO187 hc189
        have t199 := fI_of hc189 p198
        obtain ⟨f200, p201⟩ := mf_22 hO187 hc189
        have t202 := fI_of hc189 p201
        obtain ⟨f203, p204, t205⟩ := mf_23 hO187 hc189
        have t206 := fI_of hc189 p204
        have t207 := fI_keep (k := 19) hO161 hO187 hv187 rfl (by decide)
        exact ur_ret0 rfl (hQ _ _ rfl hO187 (hu27.tr (hu147.tr (hu161.tr hu187))) (by omega) (by omega) (by omega) (kp.tr (n := (iL h0)) (kp.tr (n := (iL h0)) (kp.tr (n := (iL h0)) (kp.tr (n := (iL h0)) kp.rf hp25 (by unfold iL; omega)) (kp_un hO27 hv147 (by decide) (by decide) (iL h0)) (Nat.le_refl _)) hp159 (by unfold iL; omega)) hp185 (by unfold iL; omega)) (fun q => (bk_cast (bk_bin (hp26 (by omega)) (kp.tr (n := (iL h27)) (kp.tr (n := (iL h27)) kp.rf (kp_un hO27 hv147 (by decide) (by decide) (iL h27)) (Nat.le_refl _)) hp159 (by unfold iL; omega)) (hp160 (by omega)) (by unfold iL; omega) (kp.tr (n := (iL h161)) kp.rf hp185 (by unfold iL; omega)) hp186 (by unfold iL; omega) (by omega) rfl (by unfold iL; omega) (by unfold iL; omega)) (by unfold iL; omega) (by unfold iL; omega))))
      · have t208 := eq_no c132
        refine ur_ldI rfl rfl ?_
        refine ur_push rfl ?_
        refine ur_if2 rfl (fun c209 => ?_) (fun c209 => ?_)
        · have t210 := eq_to c209
          refine ur_ldA rfl rfl ?_
          refine ur_dup rfl rfl ?_
          refine ur_get rfl hc29 p35 ?_
          have t211 : 0 ≤ f34.toInt ∧ f34.toInt ≤ 120 := by omega
          refine ur_push rfl ?_
          refine ur_binV rfl (fun x212 e213 => ?_)
          have z214 := any_r f34
          have t215 := ti_add e213 (by omega) (by omega)
          obtain ⟨f216, p217⟩ := mf_22 hO27 hc29
          have t218 := fI_of hc29 p217
          obtain ⟨f219, p220, t221⟩ := mf_23 hO27 hc29
          have t222 := fI_of hc29 p220
          refine ur_putM (W := []) rfl hO27 hc29 (by decide) rfl (ms_20 (hO27.msh hc29)) (Or.inl rfl) (fun h224 hO224 hv224 d223 hc225 => ?_)
          have hu224 : un [83, 84] h27 h224 := hv224.mono (by decide)
          have t226 := fI_of hc225 (gs_ne p31 (by decide))
          have t227 := fI_of hc225 (gs_eq p35)
          have t228 := fI_of hc225 (gs_ne p43 (by decide))
          have t229 := fI_of hc225 (gs_ne p217 (by decide))
          have t230 := fI_of hc225 (gs_ne p220 (by decide))
          refine ur_ldA rfl rfl ?_
          refine ur_inl rfl (rcv_of hc225) (Nat.le_of_ble_eq_true rfl) (Nat.le_of_ble_eq_true rfl) (sf_X12_sum n rec hO224 (by omega) (by omega) (fun w231 h238 hr232 hO238 hv238 hp233 hp234 hp235 hp236 hp237 => ?_))
          have hu238 := hv238
          subst hr232
          show uRun _ (uCall Mt _) _ 49 (_, [], _, _, _)
          refine ur_ldA rfl rfl ?_
          refine ur_ldI rfl rfl ?_
          refine ur_push rfl ?_
          obtain ⟨fs239, hc240⟩ := hO238.mod
          obtain ⟨f241, p242, t243⟩ := mf_19 hO238 hc240
          have t244 := fI_of hc240 p242
          obtain ⟨f245, p246⟩ := mf_20 hO238 hc240
          have t247 := fI_of hc240 p246
          obtain ⟨f248, p249⟩ := mf_21 hO238 hc240
          have t250 := fI_of hc240 p249
          obtain ⟨f251, p252⟩ := mf_22 hO238 hc240
          have t253 := fI_of hc240 p252
          obtain ⟨f254, p255, t256⟩ := mf_23 hO238 hc240
          have t257 := fI_of hc240 p255
          have t258 := fI_keep (k := 19) hO224 hO238 hv238 rfl (by decide)
          refine ur_inl rfl (rcv_of hc240) (Nat.le_of_ble_eq_true rfl) (Nat.le_of_ble_eq_true rfl) (sf_X12_lay hO238 _ (by show 1 ≤ x40.toInt ∧ x40.toInt ≤ 124; omega) _ (by omega) (fun w259 h264 hr260 hO264 hv264 hp261 hp262 hp263 => ?_))
          have hu264 := hv264
          subst hr260
          show uRun _ (uCall Mt _) _ 55 (_, [], _, _, _)
          obtain ⟨fs265, hc266⟩ := hO264.mod
          obtain ⟨f267, p268, t269⟩ := mf_19 hO264 hc266
          have t270 := fI_of hc266 p268
          obtain ⟨f271, p272⟩ := mf_20 hO264 hc266
          have t273 := fI_of hc266 p272
          obtain ⟨f274, p275⟩ := mf_21 hO264 hc266
          have t276 := fI_of hc266 p275
          obtain ⟨f277, p278⟩ := mf_22 hO264 hc266
          have t279 := fI_of hc266 p278
          obtain ⟨f280, p281, t282⟩ := mf_23 hO264 hc266
          have t283 := fI_of hc266 p281
          have t284 := fI_keep (k := 19) hO238 hO264 hv264 rfl (by decide)
          exact ur_ret0 rfl (hQ _ _ rfl hO264 (hu27.tr (hu224.tr (hu238.tr hu264))) (by omega) (by omega) (by omega) (kp.tr (n := (iL h0)) (kp.tr (n := (iL h0)) (kp.tr (n := (iL h0)) (kp.tr (n := (iL h0)) kp.rf hp25 (by unfold iL; omega)) (kp_un hO27 hv224 (by decide) (by decide) (iL h0)) (Nat.le_refl _)) hp236 (by unfold iL; omega)) hp262 (by unfold iL; omega)) (fun q => (bk_cast (bk_bin (hp26 (by omega)) (kp.tr (n := (iL h27)) (kp.tr (n := (iL h27)) kp.rf (kp_un hO27 hv224 (by decide) (by decide) (iL h27)) (Nat.le_refl _)) hp236 (by unfold iL; omega)) (hp237 (by omega)) (by unfold iL; omega) (kp.tr (n := (iL h238)) kp.rf hp262 (by unfold iL; omega)) hp263 (by unfold iL; omega) (by omega) rfl (by unfold iL; omega) (by unfold iL; omega)) (by unfold iL; omega) (by unfold iL; omega))))
        · have t285 := eq_no c209
          obtain ⟨f286, p287⟩ := mf_22 hO27 hc29
          have t288 := fI_of hc29 p287
          obtain ⟨f289, p290, t291⟩ := mf_23 hO27 hc29
          have t292 := fI_of hc29 p290
          exact ur_ret0 rfl (hQ _ _ rfl hO27 hu27 (by omega) (by omega) (by omega) (kp.tr (n := (iL h0)) kp.rf hp25 (by unfold iL; omega)) (fun q => (bk_cast (hp26 (by omega)) (by unfold iL; omega) (by unfold iL; omega))))

set_option maxRecDepth 20000 in
set_option maxHeartbeats 4000000 in
theorem sf_X12_both {d kc ks : Nat} {h0 : aH} {Q : Option aV → aH → Prop} (n : Nat) (rec : ∀ {kc ks : Nat} {h0 : aH} {Q : Option aV → aH → Prop}, OK h0 → (0 ≤ fI h0 20 ∧ fI h0 20 ≤ fI h0 19 ∧ fI h0 21 < 0 ∧ fI h0 23 ≤ fI h0 20) → (0 ≤ fI h0 22 ∧ fI h0 22 ≤ 6 ∧ 6 ≤ fI h0 22 + (n : Int)) → (∀ r h', (r = none) → OK h' → un [83, 84] h0 h' → (fI h0 20 ≤ fI h' 20 ∧ fI h' 20 ≤ fI h' 19 ∧ fI h' 19 = fI h0 19) → (fI h0 23 ≤ fI h' 23 ∧ fI h' 23 - fI h' 20 ≤ fI h0 23 - fI h0 20 + 1) → (fI h' 21 < 0 → fI h' 23 - fI h' 20 ≤ fI h0 23 - fI h0 20 ∧ fI h' 22 = fI h0 22 ∧ fI h0 23 < fI h' 23) → (kp h0 h' (iL h0)) → (fI h' 21 < 0 → bk h' (iL h0) (iL h')) → Q r h') → uCall Mt (d + 4) 219 [(.inr (.inr (some 69)))] h0 kc ks Q) (hO0 : OK h0)  (pre0 : 0 ≤ fI h0 20 ∧ fI h0 20 ≤ fI h0 19 ∧ fI h0 21 < 0 ∧ fI h0 23 ≤ fI h0 20) (pre1 : 0 ≤ fI h0 22 ∧ fI h0 22 ≤ 6 ∧ 6 ≤ fI h0 22 + (n : Int)) (hQ : ∀ r h', (r = none) → OK h' → un [83, 84] h0 h' → (fI h0 20 ≤ fI h' 20 ∧ fI h' 20 ≤ fI h' 19 ∧ fI h' 19 = fI h0 19) → (fI h0 23 ≤ fI h' 23 ∧ fI h' 23 - fI h' 20 ≤ fI h0 23 - fI h0 20 + 1) → (fI h' 21 < 0 → fI h' 23 - fI h' 20 ≤ fI h0 23 - fI h0 20 ∧ fI h' 22 = fI h0 22 ∧ fI h0 23 < fI h' 23) → (kp h0 h' (iL h0)) → (fI h' 21 < 0 → bk h' (iL h0) (iL h')) → Q r h') : uCall Mt (d + 8) 223 [(.inr (.inr (some 69)))] h0 kc ks Q := by
  have l_0 : ((0) : Int32).toInt = 0 := by decide
  have l_1 : ((1) : Int32).toInt = 1 := by decide
  have l_38 : ((38) : Int32).toInt = 38 := by decide
  refine uc_ink [some (.inr (.inr (some 69)))] mt_223 (Nat.le_of_ble_eq_true rfl) rfl ?_
  obtain ⟨fs1, hc2⟩ := hO0.mod
  obtain ⟨f3, p4, t5⟩ := mf_19 hO0 hc2
  have t6 := fI_of hc2 p4
  obtain ⟨f7, p8⟩ := mf_20 hO0 hc2
  have t9 := fI_of hc2 p8
  obtain ⟨f10, p11⟩ := mf_21 hO0 hc2
  have t12 := fI_of hc2 p11
  obtain ⟨f13, p14⟩ := mf_22 hO0 hc2
  have t15 := fI_of hc2 p14
  obtain ⟨f16, p17, t18⟩ := mf_23 hO0 hc2
  have t19 := fI_of hc2 p17
  refine ur_ldA rfl rfl ?_
  refine ur_inl rfl (rcv_of hc2) (Nat.le_of_ble_eq_true rfl) (Nat.le_of_ble_eq_true rfl) (sf_X12_compared n rec hO0 (by omega) (by omega) (fun w20 h27 hr21 hO27 hv27 hp22 hp23 hp24 hp25 hp26 => ?_))
  have hu27 := hv27
  subst hr21
  show uRun _ (uCall Mt _) _ 4 (_, [], _, _, _)
  obtain ⟨fs31, hc32⟩ := hO27.mod
  obtain ⟨f33, p34, t35⟩ := mf_19 hO27 hc32
  have t36 := fI_of hc32 p34
  obtain ⟨f37, p38⟩ := mf_20 hO27 hc32
  have t39 := fI_of hc32 p38
  obtain ⟨f40, p41⟩ := mf_21 hO27 hc32
  have t42 := fI_of hc32 p41
  obtain ⟨f43, p44⟩ := mf_22 hO27 hc32
  have t45 := fI_of hc32 p44
  obtain ⟨f46, p47, t48⟩ := mf_23 hO27 hc32
  have t49 := fI_of hc32 p47
  have L28 : ∀ (m29 : Nat)  (h50 : aH) , OK h50 → un [83, 84] h27 h50 → ((fI h0 20 ≤ fI h50 20 ∧ fI h50 20 ≤ fI h50 19 ∧ fI h50 19 = fI h0 19) ∧ (fI h0 23 ≤ fI h50 23 ∧ fI h50 23 - fI h50 20 ≤ fI h0 23 - fI h0 20 + 1) ∧ (fI h50 21 < 0 → fI h50 23 - fI h50 20 ≤ fI h0 23 - fI h0 20 ∧ fI h50 22 = fI h0 22 ∧ fI h0 23 < fI h50 23)) → (kp h0 h50 (iL h0)) → (fI h50 21 < 0 → bk h50 (iL h0) (iL h50)) → ((121 - fI h50 20).toNat) < m29 → uRun oX12_both (uCall Mt (d + 7)) Q 4 ([some (.inr (.inr (some 69)))], [], h50, kc, ks) := by
    intro m29
    induction m29 with
    | zero => intro  h50 hO50 hu50 iv53 px51 px52 mm54; omega
    | succ m29 ih30 =>
      intro  h50 hO50 hu50 iv53 px51 px52 mm54
      refine ur_ldA rfl rfl ?_
      obtain ⟨fs55, hc56⟩ := hO50.mod
      obtain ⟨f57, p58⟩ := mf_21 hO50 hc56
      have t59 := fI_of hc56 p58
      refine ur_get rfl hc56 p58 ?_
      refine ur_if1 rfl (fun c60 => ?_) (fun c60 => ?_)
      · have t61 := le_to c60
        obtain ⟨f62, p63, t64⟩ := mf_19 hO50 hc56
        have t65 := fI_of hc56 p63
        obtain ⟨f66, p67⟩ := mf_20 hO50 hc56
        have t68 := fI_of hc56 p67
        obtain ⟨f69, p70⟩ := mf_22 hO50 hc56
        have t71 := fI_of hc56 p70
        obtain ⟨f72, p73, t74⟩ := mf_23 hO50 hc56
        have t75 := fI_of hc56 p73
        have t76 := fI_keep (k := 19) hO0 hO27 hv27 rfl (by decide)
        exact ur_ret0 rfl (hQ _ _ rfl hO50 (hu27.tr hu50) (by omega) (by omega) (by omega) px51 (fun q => (bk_cast (px52 (by omega)) (by unfold iL; omega) (by unfold iL; omega))))
      · have t77 := le_no c60
        refine ur_ldA rfl rfl ?_
        obtain ⟨f78, p79, t80⟩ := mf_19 hO50 hc56
        have t81 := fI_of hc56 p79
        obtain ⟨f82, p83⟩ := mf_20 hO50 hc56
        have t84 := fI_of hc56 p83
        have t85 := fI_keep (k := 19) hO0 hO27 hv27 rfl (by decide)
        refine ur_inl rfl (rcv_of hc56) (Nat.le_of_ble_eq_true rfl) (Nat.le_of_ble_eq_true rfl) (sf_X12_look hO50 (by omega) (fun w86 hr87 => ?_))
        obtain ⟨x88, rfl, t89⟩ := hr87
        show uRun _ (uCall Mt _) _ 15 (_, [(.inl x88)], _, _, _)
        refine ur_push rfl ?_
        refine ur_if2 rfl (fun c90 => ?_) (fun c90 => ?_)
        · have t91 := ne_to c90
          obtain ⟨f92, p93⟩ := mf_22 hO50 hc56
          have t94 := fI_of hc56 p93
          obtain ⟨f95, p96, t97⟩ := mf_23 hO50 hc56
          have t98 := fI_of hc56 p96
          exact ur_ret0 rfl (hQ _ _ rfl hO50 (hu27.tr hu50) (by omega) (by omega) (by omega) px51 (fun q => (bk_cast (px52 (by omega)) (by unfold iL; omega) (by unfold iL; omega))))
        · have t99 := ne_no c90
          refine ur_ldA rfl rfl ?_
          refine ur_dup rfl rfl ?_
          refine ur_get rfl hc56 p83 ?_
          have t100 : 0 ≤ f82.toInt ∧ f82.toInt ≤ 120 := by omega
          refine ur_push rfl ?_
          refine ur_binV rfl (fun x101 e102 => ?_)
          have z103 := any_r f82
          have t104 := ti_add e102 (by omega) (by omega)
          obtain ⟨f105, p106⟩ := mf_22 hO50 hc56
          have t107 := fI_of hc56 p106
          obtain ⟨f108, p109, t110⟩ := mf_23 hO50 hc56
          have t111 := fI_of hc56 p109
          refine ur_putM (W := []) rfl hO50 hc56 (by decide) rfl (ms_20 (hO50.msh hc56)) (Or.inl rfl) (fun h113 hO113 hv113 d112 hc114 => ?_)
          have hu113 : un [83, 84] h50 h113 := hv113.mono (by decide)
          have t115 := fI_of hc114 (gs_ne p79 (by decide))
          have t116 := fI_of hc114 (gs_eq p83)
          have t117 := fI_of hc114 (gs_ne p58 (by decide))
          have t118 := fI_of hc114 (gs_ne p106 (by decide))
          have t119 := fI_of hc114 (gs_ne p109 (by decide))
          refine ur_ldA rfl rfl ?_
          refine ur_inl rfl (rcv_of hc114) (Nat.le_of_ble_eq_true rfl) (Nat.le_of_ble_eq_true rfl) (sf_X12_compared n rec hO113 (by omega) (by omega) (fun w120 h127 hr121 hO127 hv127 hp122 hp123 hp124 hp125 hp126 => ?_))
          have hu127 := hv127
          subst hr121
          show uRun _ (uCall Mt _) _ 34 (_, [], _, _, _)
          refine ur_ldA rfl rfl ?_
          refine ur_push rfl ?_
          refine ur_push rfl ?_
          obtain ⟨fs128, hc129⟩ := hO127.mod
          obtain ⟨f130, p131, t132⟩ := mf_19 hO127 hc129
          have t133 := fI_of hc129 p131
          obtain ⟨f134, p135⟩ := mf_20 hO127 hc129
          have t136 := fI_of hc129 p135
          obtain ⟨f137, p138⟩ := mf_21 hO127 hc129
          have t139 := fI_of hc129 p138
          obtain ⟨f140, p141⟩ := mf_22 hO127 hc129
          have t142 := fI_of hc129 p141
          obtain ⟨f143, p144, t145⟩ := mf_23 hO127 hc129
          have t146 := fI_of hc129 p144
          have t147 := fI_keep (k := 19) hO113 hO127 hv127 rfl (by decide)
          refine ur_inl rfl (rcv_of hc129) (Nat.le_of_ble_eq_true rfl) (Nat.le_of_ble_eq_true rfl) (sf_X12_lay hO127 _ (by show 1 ≤ (38 : Int32).toInt ∧ (38 : Int32).toInt ≤ 124; omega) _ (by omega) (fun w148 h153 hr149 hO153 hv153 hp150 hp151 hp152 => ?_))
          have hu153 := hv153
          subst hr149
          show uRun _ (uCall Mt _) _ 41 (_, [], _, _, _)
          refine ur_go rfl ?_
          obtain ⟨fs154, hc155⟩ := hO153.mod
          obtain ⟨f156, p157, t158⟩ := mf_19 hO153 hc155
          have t159 := fI_of hc155 p157
          obtain ⟨f160, p161⟩ := mf_20 hO153 hc155
          have t162 := fI_of hc155 p161
          obtain ⟨f163, p164⟩ := mf_21 hO153 hc155
          have t165 := fI_of hc155 p164
          obtain ⟨f166, p167⟩ := mf_22 hO153 hc155
          have t168 := fI_of hc155 p167
          obtain ⟨f169, p170, t171⟩ := mf_23 hO153 hc155
          have t172 := fI_of hc155 p170
          exact ih30  _ hO153 (hu50.tr (hu113.tr (hu127.tr hu153))) (by omega) (kp.tr (n := (iL h0)) (kp.tr (n := (iL h0)) (kp.tr (n := (iL h0)) px51 (kp_un hO50 hv113 (by decide) (by decide) (iL h0)) (Nat.le_refl _)) hp125 (by unfold iL; omega)) hp151 (by unfold iL; omega)) (fun q => (bk_cast (bk_bin (px52 (by omega)) (kp.tr (n := (iL h50)) (kp.tr (n := (iL h50)) kp.rf (kp_un hO50 hv113 (by decide) (by decide) (iL h50)) (Nat.le_refl _)) hp125 (by unfold iL; omega)) (hp126 (by omega)) (by unfold iL; omega) (kp.tr (n := (iL h127)) kp.rf hp151 (by unfold iL; omega)) hp152 (by unfold iL; omega) (by omega) rfl (by unfold iL; omega) (by unfold iL; omega)) (by unfold iL; omega) (by unfold iL; omega))) (by omega)
  exact L28 _  _ hO27 un.rf (by omega) (kp.tr (n := (iL h0)) kp.rf hp25 (by unfold iL; omega)) (fun q => (bk_cast (hp26 (by omega)) (by unfold iL; omega) (by unfold iL; omega))) (Nat.lt_succ_self _)

set_option maxRecDepth 20000 in
set_option maxHeartbeats 4000000 in
theorem sf_X12_either {d kc ks : Nat} {h0 : aH} {Q : Option aV → aH → Prop} (n : Nat) (rec : ∀ {kc ks : Nat} {h0 : aH} {Q : Option aV → aH → Prop}, OK h0 → (0 ≤ fI h0 20 ∧ fI h0 20 ≤ fI h0 19 ∧ fI h0 21 < 0 ∧ fI h0 23 ≤ fI h0 20) → (0 ≤ fI h0 22 ∧ fI h0 22 ≤ 6 ∧ 6 ≤ fI h0 22 + (n : Int)) → (∀ r h', (r = none) → OK h' → un [83, 84] h0 h' → (fI h0 20 ≤ fI h' 20 ∧ fI h' 20 ≤ fI h' 19 ∧ fI h' 19 = fI h0 19) → (fI h0 23 ≤ fI h' 23 ∧ fI h' 23 - fI h' 20 ≤ fI h0 23 - fI h0 20 + 1) → (fI h' 21 < 0 → fI h' 23 - fI h' 20 ≤ fI h0 23 - fI h0 20 ∧ fI h' 22 = fI h0 22 ∧ fI h0 23 < fI h' 23) → (kp h0 h' (iL h0)) → (fI h' 21 < 0 → bk h' (iL h0) (iL h')) → Q r h') → uCall Mt (d + 4) 219 [(.inr (.inr (some 69)))] h0 kc ks Q) (hO0 : OK h0)  (pre0 : 0 ≤ fI h0 20 ∧ fI h0 20 ≤ fI h0 19 ∧ fI h0 21 < 0 ∧ fI h0 23 ≤ fI h0 20) (pre1 : 0 ≤ fI h0 22 ∧ fI h0 22 ≤ 6 ∧ 6 ≤ fI h0 22 + (n : Int)) (hQ : ∀ r h', (r = none) → OK h' → un [83, 84] h0 h' → (fI h0 20 ≤ fI h' 20 ∧ fI h' 20 ≤ fI h' 19 ∧ fI h' 19 = fI h0 19) → (fI h0 23 ≤ fI h' 23 ∧ fI h' 23 - fI h' 20 ≤ fI h0 23 - fI h0 20 + 1) → (fI h' 21 < 0 → fI h' 23 - fI h' 20 ≤ fI h0 23 - fI h0 20 ∧ fI h' 22 = fI h0 22 ∧ fI h0 23 < fI h' 23) → (kp h0 h' (iL h0)) → (fI h' 21 < 0 → bk h' (iL h0) (iL h')) → Q r h') : uCall Mt (d + 9) 224 [(.inr (.inr (some 69)))] h0 kc ks Q := by
  have l_0 : ((0) : Int32).toInt = 0 := by decide
  have l_1 : ((1) : Int32).toInt = 1 := by decide
  have l_124 : ((124) : Int32).toInt = 124 := by decide
  refine uc_ink [some (.inr (.inr (some 69)))] mt_224 (Nat.le_of_ble_eq_true rfl) rfl ?_
  obtain ⟨fs1, hc2⟩ := hO0.mod
  obtain ⟨f3, p4, t5⟩ := mf_19 hO0 hc2
  have t6 := fI_of hc2 p4
  obtain ⟨f7, p8⟩ := mf_20 hO0 hc2
  have t9 := fI_of hc2 p8
  obtain ⟨f10, p11⟩ := mf_21 hO0 hc2
  have t12 := fI_of hc2 p11
  obtain ⟨f13, p14⟩ := mf_22 hO0 hc2
  have t15 := fI_of hc2 p14
  obtain ⟨f16, p17, t18⟩ := mf_23 hO0 hc2
  have t19 := fI_of hc2 p17
  refine ur_ldA rfl rfl ?_
  refine ur_inl rfl (rcv_of hc2) (Nat.le_of_ble_eq_true rfl) (Nat.le_of_ble_eq_true rfl) (sf_X12_both n rec hO0 (by omega) (by omega) (fun w20 h27 hr21 hO27 hv27 hp22 hp23 hp24 hp25 hp26 => ?_))
  have hu27 := hv27
  subst hr21
  show uRun _ (uCall Mt _) _ 4 (_, [], _, _, _)
  obtain ⟨fs31, hc32⟩ := hO27.mod
  obtain ⟨f33, p34, t35⟩ := mf_19 hO27 hc32
  have t36 := fI_of hc32 p34
  obtain ⟨f37, p38⟩ := mf_20 hO27 hc32
  have t39 := fI_of hc32 p38
  obtain ⟨f40, p41⟩ := mf_21 hO27 hc32
  have t42 := fI_of hc32 p41
  obtain ⟨f43, p44⟩ := mf_22 hO27 hc32
  have t45 := fI_of hc32 p44
  obtain ⟨f46, p47, t48⟩ := mf_23 hO27 hc32
  have t49 := fI_of hc32 p47
  have L28 : ∀ (m29 : Nat)  (h50 : aH) , OK h50 → un [83, 84] h27 h50 → ((fI h0 20 ≤ fI h50 20 ∧ fI h50 20 ≤ fI h50 19 ∧ fI h50 19 = fI h0 19) ∧ (fI h0 23 ≤ fI h50 23 ∧ fI h50 23 - fI h50 20 ≤ fI h0 23 - fI h0 20 + 1) ∧ (fI h50 21 < 0 → fI h50 23 - fI h50 20 ≤ fI h0 23 - fI h0 20 ∧ fI h50 22 = fI h0 22 ∧ fI h0 23 < fI h50 23)) → (kp h0 h50 (iL h0)) → (fI h50 21 < 0 → bk h50 (iL h0) (iL h50)) → ((121 - fI h50 20).toNat) < m29 → uRun oX12_either (uCall Mt (d + 8)) Q 4 ([some (.inr (.inr (some 69)))], [], h50, kc, ks) := by
    intro m29
    induction m29 with
    | zero => intro  h50 hO50 hu50 iv53 px51 px52 mm54; omega
    | succ m29 ih30 =>
      intro  h50 hO50 hu50 iv53 px51 px52 mm54
      refine ur_ldA rfl rfl ?_
      obtain ⟨fs55, hc56⟩ := hO50.mod
      obtain ⟨f57, p58⟩ := mf_21 hO50 hc56
      have t59 := fI_of hc56 p58
      refine ur_get rfl hc56 p58 ?_
      refine ur_if1 rfl (fun c60 => ?_) (fun c60 => ?_)
      · have t61 := le_to c60
        obtain ⟨f62, p63, t64⟩ := mf_19 hO50 hc56
        have t65 := fI_of hc56 p63
        obtain ⟨f66, p67⟩ := mf_20 hO50 hc56
        have t68 := fI_of hc56 p67
        obtain ⟨f69, p70⟩ := mf_22 hO50 hc56
        have t71 := fI_of hc56 p70
        obtain ⟨f72, p73, t74⟩ := mf_23 hO50 hc56
        have t75 := fI_of hc56 p73
        have t76 := fI_keep (k := 19) hO0 hO27 hv27 rfl (by decide)
        exact ur_ret0 rfl (hQ _ _ rfl hO50 (hu27.tr hu50) (by omega) (by omega) (by omega) px51 (fun q => (bk_cast (px52 (by omega)) (by unfold iL; omega) (by unfold iL; omega))))
      · have t77 := le_no c60
        refine ur_ldA rfl rfl ?_
        obtain ⟨f78, p79, t80⟩ := mf_19 hO50 hc56
        have t81 := fI_of hc56 p79
        obtain ⟨f82, p83⟩ := mf_20 hO50 hc56
        have t84 := fI_of hc56 p83
        have t85 := fI_keep (k := 19) hO0 hO27 hv27 rfl (by decide)
        refine ur_inl rfl (rcv_of hc56) (Nat.le_of_ble_eq_true rfl) (Nat.le_of_ble_eq_true rfl) (sf_X12_look hO50 (by omega) (fun w86 hr87 => ?_))
        obtain ⟨x88, rfl, t89⟩ := hr87
        show uRun _ (uCall Mt _) _ 15 (_, [(.inl x88)], _, _, _)
        refine ur_push rfl ?_
        refine ur_if2 rfl (fun c90 => ?_) (fun c90 => ?_)
        · have t91 := ne_to c90
          obtain ⟨f92, p93⟩ := mf_22 hO50 hc56
          have t94 := fI_of hc56 p93
          obtain ⟨f95, p96, t97⟩ := mf_23 hO50 hc56
          have t98 := fI_of hc56 p96
          exact ur_ret0 rfl (hQ _ _ rfl hO50 (hu27.tr hu50) (by omega) (by omega) (by omega) px51 (fun q => (bk_cast (px52 (by omega)) (by unfold iL; omega) (by unfold iL; omega))))
        · have t99 := ne_no c90
          refine ur_ldA rfl rfl ?_
          refine ur_dup rfl rfl ?_
          refine ur_get rfl hc56 p83 ?_
          have t100 : 0 ≤ f82.toInt ∧ f82.toInt ≤ 120 := by omega
          refine ur_push rfl ?_
          refine ur_binV rfl (fun x101 e102 => ?_)
          have z103 := any_r f82
          have t104 := ti_add e102 (by omega) (by omega)
          obtain ⟨f105, p106⟩ := mf_22 hO50 hc56
          have t107 := fI_of hc56 p106
          obtain ⟨f108, p109, t110⟩ := mf_23 hO50 hc56
          have t111 := fI_of hc56 p109
          refine ur_putM (W := []) rfl hO50 hc56 (by decide) rfl (ms_20 (hO50.msh hc56)) (Or.inl rfl) (fun h113 hO113 hv113 d112 hc114 => ?_)
          have hu113 : un [83, 84] h50 h113 := hv113.mono (by decide)
          have t115 := fI_of hc114 (gs_ne p79 (by decide))
          have t116 := fI_of hc114 (gs_eq p83)
          have t117 := fI_of hc114 (gs_ne p58 (by decide))
          have t118 := fI_of hc114 (gs_ne p106 (by decide))
          have t119 := fI_of hc114 (gs_ne p109 (by decide))
          refine ur_ldA rfl rfl ?_
          refine ur_inl rfl (rcv_of hc114) (Nat.le_of_ble_eq_true rfl) (Nat.le_of_ble_eq_true rfl) (sf_X12_both n rec hO113 (by omega) (by omega) (fun w120 h127 hr121 hO127 hv127 hp122 hp123 hp124 hp125 hp126 => ?_))
          have hu127 := hv127
          subst hr121
          show uRun _ (uCall Mt _) _ 34 (_, [], _, _, _)
          refine ur_ldA rfl rfl ?_
          refine ur_push rfl ?_
          refine ur_push rfl ?_
          obtain ⟨fs128, hc129⟩ := hO127.mod
          obtain ⟨f130, p131, t132⟩ := mf_19 hO127 hc129
          have t133 := fI_of hc129 p131
          obtain ⟨f134, p135⟩ := mf_20 hO127 hc129
          have t136 := fI_of hc129 p135
          obtain ⟨f137, p138⟩ := mf_21 hO127 hc129
          have t139 := fI_of hc129 p138
          obtain ⟨f140, p141⟩ := mf_22 hO127 hc129
          have t142 := fI_of hc129 p141
          obtain ⟨f143, p144, t145⟩ := mf_23 hO127 hc129
          have t146 := fI_of hc129 p144
          have t147 := fI_keep (k := 19) hO113 hO127 hv127 rfl (by decide)
          refine ur_inl rfl (rcv_of hc129) (Nat.le_of_ble_eq_true rfl) (Nat.le_of_ble_eq_true rfl) (sf_X12_lay hO127 _ (by show 1 ≤ (124 : Int32).toInt ∧ (124 : Int32).toInt ≤ 124; omega) _ (by omega) (fun w148 h153 hr149 hO153 hv153 hp150 hp151 hp152 => ?_))
          have hu153 := hv153
          subst hr149
          show uRun _ (uCall Mt _) _ 41 (_, [], _, _, _)
          refine ur_go rfl ?_
          obtain ⟨fs154, hc155⟩ := hO153.mod
          obtain ⟨f156, p157, t158⟩ := mf_19 hO153 hc155
          have t159 := fI_of hc155 p157
          obtain ⟨f160, p161⟩ := mf_20 hO153 hc155
          have t162 := fI_of hc155 p161
          obtain ⟨f163, p164⟩ := mf_21 hO153 hc155
          have t165 := fI_of hc155 p164
          obtain ⟨f166, p167⟩ := mf_22 hO153 hc155
          have t168 := fI_of hc155 p167
          obtain ⟨f169, p170, t171⟩ := mf_23 hO153 hc155
          have t172 := fI_of hc155 p170
          exact ih30  _ hO153 (hu50.tr (hu113.tr (hu127.tr hu153))) (by omega) (kp.tr (n := (iL h0)) (kp.tr (n := (iL h0)) (kp.tr (n := (iL h0)) px51 (kp_un hO50 hv113 (by decide) (by decide) (iL h0)) (Nat.le_refl _)) hp125 (by unfold iL; omega)) hp151 (by unfold iL; omega)) (fun q => (bk_cast (bk_bin (px52 (by omega)) (kp.tr (n := (iL h50)) (kp.tr (n := (iL h50)) kp.rf (kp_un hO50 hv113 (by decide) (by decide) (iL h50)) (Nat.le_refl _)) hp125 (by unfold iL; omega)) (hp126 (by omega)) (by unfold iL; omega) (kp.tr (n := (iL h127)) kp.rf hp151 (by unfold iL; omega)) hp152 (by unfold iL; omega) (by omega) rfl (by unfold iL; omega) (by unfold iL; omega)) (by unfold iL; omega) (by unfold iL; omega))) (by omega)
  exact L28 _  _ hO27 un.rf (by omega) (kp.tr (n := (iL h0)) kp.rf hp25 (by unfold iL; omega)) (fun q => (bk_cast (hp26 (by omega)) (by unfold iL; omega) (by unfold iL; omega))) (Nat.lt_succ_self _)

set_option maxRecDepth 20000 in
set_option maxHeartbeats 4000000 in
theorem sf_X12_op_s {d kc ks : Nat} {h0 : aH} {Q : Option aV → aH → Prop} (n : Nat) (rec : ∀ {kc ks : Nat} {h0 : aH} {Q : Option aV → aH → Prop}, OK h0 → (0 ≤ fI h0 20 ∧ fI h0 20 ≤ fI h0 19 ∧ fI h0 21 < 0 ∧ fI h0 23 ≤ fI h0 20) → (0 ≤ fI h0 22 ∧ fI h0 22 ≤ 6 ∧ 6 ≤ fI h0 22 + (n : Int)) → (∀ r h', (r = none) → OK h' → un [83, 84] h0 h' → (fI h0 20 ≤ fI h' 20 ∧ fI h' 20 ≤ fI h' 19 ∧ fI h' 19 = fI h0 19) → (fI h0 23 ≤ fI h' 23 ∧ fI h' 23 - fI h' 20 ≤ fI h0 23 - fI h0 20 + 1) → (fI h' 21 < 0 → fI h' 23 - fI h' 20 ≤ fI h0 23 - fI h0 20 ∧ fI h' 22 = fI h0 22 ∧ fI h0 23 < fI h' 23) → (kp h0 h' (iL h0)) → (fI h' 21 < 0 → bk h' (iL h0) (iL h')) → Q r h') → uCall Mt (d + 4) 219 [(.inr (.inr (some 69)))] h0 kc ks Q) (rec9 : ∀ {kc ks : Nat} {h0 : aH} {Q : Option aV → aH → Prop}, OK h0 → (0 ≤ fI h0 20 ∧ fI h0 20 ≤ fI h0 19 ∧ fI h0 21 < 0 ∧ fI h0 23 ≤ fI h0 20) → (0 ≤ fI h0 22 ∧ fI h0 22 ≤ 6 ∧ 6 ≤ fI h0 22 + (n : Int)) → (∀ r h', (r = none) → OK h' → un [83, 84] h0 h' → (fI h0 20 ≤ fI h' 20 ∧ fI h' 20 ≤ fI h' 19 ∧ fI h' 19 = fI h0 19) → (fI h0 23 ≤ fI h' 23 ∧ fI h' 23 - fI h' 20 ≤ fI h0 23 - fI h0 20 + 1) → (fI h' 21 < 0 → fI h' 23 - fI h' 20 ≤ fI h0 23 - fI h0 20 ∧ fI h' 22 = fI h0 22 ∧ fI h0 23 < fI h' 23) → (kp h0 h' (iL h0)) → (fI h' 21 < 0 → bk h' (iL h0) (iL h')) → Q r h') → uCall Mt (d + 9) 219 [(.inr (.inr (some 69)))] h0 kc ks Q) (hO0 : OK h0)  (pre0 : 0 ≤ fI h0 20 ∧ fI h0 20 ≤ fI h0 19 ∧ fI h0 21 < 0 ∧ fI h0 23 ≤ fI h0 20) (pre1 : 0 ≤ fI h0 22 ∧ fI h0 22 ≤ 6 ∧ 6 ≤ fI h0 22 + ((n + 1 : Nat) : Int)) (hQ : ∀ r h', (r = none) → OK h' → un [83, 84] h0 h' → (fI h0 20 ≤ fI h' 20 ∧ fI h' 20 ≤ fI h' 19 ∧ fI h' 19 = fI h0 19) → (fI h0 23 ≤ fI h' 23 ∧ fI h' 23 - fI h' 20 ≤ fI h0 23 - fI h0 20 + 1) → (fI h' 21 < 0 → fI h' 23 - fI h' 20 ≤ fI h0 23 - fI h0 20 ∧ fI h' 22 = fI h0 22 ∧ fI h0 23 < fI h' 23) → (kp h0 h' (iL h0)) → (fI h' 21 < 0 → bk h' (iL h0) (iL h')) → Q r h') : uCall Mt (d + 10) 219 [(.inr (.inr (some 69)))] h0 kc ks Q := by
  have l_0 : ((0) : Int32).toInt = 0 := by decide
  have l_1 : ((1) : Int32).toInt = 1 := by decide
  have l_2 : ((2) : Int32).toInt = 2 := by decide
  have l_3 : ((3) : Int32).toInt = 3 := by decide
  have l_4 : ((4) : Int32).toInt = 4 := by decide
  have l_33 : ((33) : Int32).toInt = 33 := by decide
  have l_40 : ((40) : Int32).toInt = 40 := by decide
  have l_41 : ((41) : Int32).toInt = 41 := by decide
  have l_45 : ((45) : Int32).toInt = 45 := by decide
  refine uc_ink [some (.inr (.inr (some 69))), none] mt_219 (Nat.le_of_ble_eq_true rfl) rfl ?_
  obtain ⟨fs1, hc2⟩ := hO0.mod
  obtain ⟨f3, p4, t5⟩ := mf_19 hO0 hc2
  have t6 := fI_of hc2 p4
  obtain ⟨f7, p8⟩ := mf_20 hO0 hc2
  have t9 := fI_of hc2 p8
  obtain ⟨f10, p11⟩ := mf_21 hO0 hc2
  have t12 := fI_of hc2 p11
  obtain ⟨f13, p14⟩ := mf_22 hO0 hc2
  have t15 := fI_of hc2 p14
  obtain ⟨f16, p17, t18⟩ := mf_23 hO0 hc2
  have t19 := fI_of hc2 p17
  refine ur_ldA rfl rfl ?_
  refine ur_inl rfl (rcv_of hc2) (Nat.le_of_ble_eq_true rfl) (Nat.le_of_ble_eq_true rfl) (sf_X12_look hO0 (by omega) (fun w20 hr21 => ?_))
  obtain ⟨x22, rfl, t23⟩ := hr21
  show uRun _ (uCall Mt _) _ 4 (_, [(.inl x22)], _, _, _)
  refine ur_svIk [some (.inr (.inr (some 69))), some (.inl x22)] rfl rfl ?_
  refine ur_ldI rfl rfl ?_
  refine ur_inl rfl rfl (Nat.le_of_ble_eq_true rfl) (Nat.le_of_ble_eq_true rfl) (sg_nameOf _ (fun w24 hr25 => ?_))
  obtain ⟨x26, rfl, t27⟩ := hr25
  show uRun _ (uCall Mt _) _ 9 (_, [(.inl x26)], _, _, _)
  refine ur_if1 rfl (fun c28 => ?_) (fun c28 => ?_)
  · have t29 := lt_to c28
    refine ur_ldI rfl rfl ?_
    refine ur_push rfl ?_
    refine ur_if2 rfl (fun c30 => ?_) (fun c30 => ?_)
    · have t31 := eq_to c30
      refine ur_ldA rfl rfl ?_
      refine ur_inl rfl (rcv_of hc2) (Nat.le_of_ble_eq_true rfl) (Nat.le_of_ble_eq_true rfl) (sf_X12_opens hO0 (by omega) (by omega) (fun w32 h35 hr33 hO35 hv35 hp34 => ?_))
      have hu35 : un [83, 84] h0 h35 := hv35.mono (by decide)
      obtain ⟨b36, rfl, t37, t38⟩ := hr33
      show uRun _ (uCall Mt _) _ 50 (_, [(.inl (bi b36))], _, _, _)
      refine ur_neB rfl (fun c39 => ?_) (fun c39 => ?_)
      · have t40 := t37 c39
        refine ur_ldA rfl rfl ?_
        obtain ⟨fs41, hc42⟩ := hO35.mod
        obtain ⟨f43, p44, t45⟩ := mf_19 hO35 hc42
        have t46 := fI_of hc42 p44
        obtain ⟨f47, p48⟩ := mf_20 hO35 hc42
        have t49 := fI_of hc42 p48
        obtain ⟨f50, p51⟩ := mf_21 hO35 hc42
        have t52 := fI_of hc42 p51
        obtain ⟨f53, p54⟩ := mf_22 hO35 hc42
        have t55 := fI_of hc42 p54
        obtain ⟨f56, p57, t58⟩ := mf_23 hO35 hc42
        have t59 := fI_of hc42 p57
        have t60 := fI_keep (k := 19) hO0 hO35 hv35 rfl (by decide)
        refine ur_inl rfl (rcv_of hc42) (Nat.le_of_ble_eq_true rfl) (Nat.le_of_ble_eq_true rfl) (rec9 hO35 (by omega) (by omega) (fun w61 h68 hr62 hO68 hv68 hp63 hp64 hp65 hp66 hp67 => ?_))
        have hu68 := hv68
        subst hr62
        show uRun _ (uCall Mt _) _ 58 (_, [], _, _, _)
        refine ur_ldA rfl rfl ?_
        refine ur_dup rfl rfl ?_
        obtain ⟨fs69, hc70⟩ := hO68.mod
        obtain ⟨f71, p72⟩ := mf_22 hO68 hc70
        have t73 := fI_of hc70 p72
        refine ur_get rfl hc70 p72 ?_
        refine ur_push rfl ?_
        refine ur_binV rfl (fun x74 e75 => ?_)
        have z76 := any_r f71
        have t77 : 0 ≤ f71.toInt → x74.toInt = f71.toInt - (1 : Int32).toInt := fun q => by have := any_r f71; exact ti_sub e75 (by omega) (by omega)
        obtain ⟨f78, p79, t80⟩ := mf_19 hO68 hc70
        have t81 := fI_of hc70 p79
        obtain ⟨f82, p83⟩ := mf_20 hO68 hc70
        have t84 := fI_of hc70 p83
        obtain ⟨f85, p86⟩ := mf_21 hO68 hc70
        have t87 := fI_of hc70 p86
        obtain ⟨f88, p89, t90⟩ := mf_23 hO68 hc70
        have t91 := fI_of hc70 p89
        refine ur_putM (W := []) rfl hO68 hc70 (by decide) rfl (ms_22 (hO68.msh hc70)) (Or.inl rfl) (fun h93 hO93 hv93 d92 hc94 => ?_)
        have hu93 : un [83, 84] h68 h93 := hv93.mono (by decide)
        have t95 := fI_of hc94 (gs_ne p79 (by decide))
        have t96 := fI_of hc94 (gs_ne p83 (by decide))
        have t97 := fI_of hc94 (gs_ne p86 (by decide))
        have t98 := fI_of hc94 (gs_eq p72)
        have t99 := fI_of hc94 (gs_ne p89 (by decide))
        refine ur_ldA rfl rfl ?_
        refine ur_ldI rfl rfl ?_
        refine ur_push rfl ?_
        refine ur_if2 rfl (fun c100 => ?_) (fun c100 => ?_)
        · have t101 := ne_to c100
          exfalso
          omega
        · have t102 := ne_no c100
          refine ur_push rfl ?_
          refine ur_go rfl ?_
          refine ur_push rfl ?_
          have t103 := fI_keep (k := 19) hO35 hO68 hv68 rfl (by decide)
          refine ur_inl rfl (rcv_of hc94) (Nat.le_of_ble_eq_true rfl) (Nat.le_of_ble_eq_true rfl) (sf_X12_lay hO93 _ (by show 1 ≤ (3 : Int32).toInt ∧ (3 : Int32).toInt ≤ 124; omega) _ (by omega) (fun w104 h109 hr105 hO109 hv109 hp106 hp107 hp108 => ?_))
          have hu109 := hv109
          subst hr105
          show uRun _ (uCall Mt _) _ 84 (_, [], _, _, _)
          refine ur_go rfl ?_
          obtain ⟨fs110, hc111⟩ := hO109.mod
          obtain ⟨f112, p113, t114⟩ := mf_19 hO109 hc111
          have t115 := fI_of hc111 p113
          obtain ⟨f116, p117⟩ := mf_20 hO109 hc111
          have t118 := fI_of hc111 p117
          obtain ⟨f119, p120⟩ := mf_21 hO109 hc111
          have t121 := fI_of hc111 p120
          obtain ⟨f122, p123⟩ := mf_22 hO109 hc111
          have t124 := fI_of hc111 p123
          obtain ⟨f125, p126, t127⟩ := mf_23 hO109 hc111
          have t128 := fI_of hc111 p126
          have t129 := fI_keep (k := 19) hO93 hO109 hv109 rfl (by decide)
          exact ur_ret0 rfl (hQ _ _ rfl hO109 (hu35.tr (hu68.tr (hu93.tr hu109))) (by omega) (by omega) (by omega) (kp.tr (n := (iL h0)) (kp.tr (n := (iL h0)) (kp.tr (n := (iL h0)) (kp.tr (n := (iL h0)) kp.rf (kp_un hO0 hv35 (by decide) (by decide) (iL h0)) (Nat.le_refl _)) hp66 (by unfold iL; omega)) (kp_un hO68 hv93 (by decide) (by decide) (iL h0)) (Nat.le_refl _)) hp107 (by unfold iL; omega)) (fun q => (bk_cast (bk_un (hp67 (by omega)) (kp.tr (n := (iL h68)) (kp.tr (n := (iL h68)) kp.rf (kp_un hO68 hv93 (by decide) (by decide) (iL h68)) (Nat.le_refl _)) hp107 (by unfold iL; omega)) hp108 (by unfold iL; omega) (by omega) rfl (by unfold iL; omega)) (by unfold iL; omega) (by unfold iL; omega))))
      · have t130 := t38 c39
        obtain ⟨fs131, hc132⟩ := hO35.mod
        obtain ⟨f133, p134, t135⟩ := mf_19 hO35 hc132
        have t136 := fI_of hc132 p134
        obtain ⟨f137, p138⟩ := mf_20 hO35 hc132
        have t139 := fI_of hc132 p138
        obtain ⟨f140, p141⟩ := mf_21 hO35 hc132
        have t142 := fI_of hc132 p141
        obtain ⟨f143, p144⟩ := mf_22 hO35 hc132
        have t145 := fI_of hc132 p144
        obtain ⟨f146, p147, t148⟩ := mf_23 hO35 hc132
        have t149 := fI_of hc132 p147
        have t150 := fI_keep (k := 19) hO0 hO35 hv35 rfl (by decide)
        exact ur_ret0 rfl (hQ _ _ rfl hO35 hu35 (by omega) (by omega) (by omega) (kp.tr (n := (iL h0)) kp.rf (kp_un hO0 hv35 (by decide) (by decide) (iL h0)) (Nat.le_refl _)) (fun q => absurd q (by omega)))
    · have t151 := eq_no c30
      refine ur_ldI rfl rfl ?_
      refine ur_push rfl ?_
      refine ur_if2 rfl (fun c152 => ?_) (fun c152 => ?_)
      · have t153 := ne_to c152
        refine ur_ldI rfl rfl ?_
        refine ur_push rfl ?_
        refine ur_if2 rfl (fun c154 => ?_) (fun c154 => ?_)
        · have t155 := ne_to c154
          refine ur_ldA rfl rfl ?_
          refine ur_inl rfl (rcv_of hc2) (Nat.le_of_ble_eq_true rfl) (Nat.le_of_ble_eq_true rfl) (sf_X12_number hO0 (by omega) (fun w156 h163 hr157 hO163 hv163 hp158 hp159 hp160 hp161 hp162 => ?_))
          have hu163 := hv163
          subst hr157
          show uRun _ (uCall Mt _) _ 154 (_, [], _, _, _)
          obtain ⟨fs164, hc165⟩ := hO163.mod
          obtain ⟨f166, p167, t168⟩ := mf_19 hO163 hc165
          have t169 := fI_of hc165 p167
          obtain ⟨f170, p171⟩ := mf_20 hO163 hc165
          have t172 := fI_of hc165 p171
          obtain ⟨f173, p174⟩ := mf_21 hO163 hc165
          have t175 := fI_of hc165 p174
          obtain ⟨f176, p177⟩ := mf_22 hO163 hc165
          have t178 := fI_of hc165 p177
          obtain ⟨f179, p180, t181⟩ := mf_23 hO163 hc165
          have t182 := fI_of hc165 p180
          have t183 := fI_keep (k := 19) hO0 hO163 hv163 rfl (by decide)
          exact ur_ret0 rfl (hQ _ _ rfl hO163 hu163 (by omega) (by omega) (by omega) (kp.tr (n := (iL h0)) kp.rf hp161 (by unfold iL; omega)) (fun q => (bk_cast (hp162 (by omega)) (by unfold iL; omega) (by unfold iL; omega))))
        · have t184 := ne_no c154
          refine ur_ldA rfl rfl ?_
          refine ur_inl rfl (rcv_of hc2) (Nat.le_of_ble_eq_true rfl) (Nat.le_of_ble_eq_true rfl) (sf_X12_opens hO0 (by omega) (by omega) (fun w185 h188 hr186 hO188 hv188 hp187 => ?_))
          have hu188 : un [83, 84] h0 h188 := hv188.mono (by decide)
          obtain ⟨b189, rfl, t190, t191⟩ := hr186
          show uRun _ (uCall Mt _) _ 97 (_, [(.inl (bi b189))], _, _, _)
          refine ur_neB rfl (fun c192 => ?_) (fun c192 => ?_)
          · have t193 := t190 c192
            refine ur_ldA rfl rfl ?_
            obtain ⟨fs194, hc195⟩ := hO188.mod
            obtain ⟨f196, p197, t198⟩ := mf_19 hO188 hc195
            have t199 := fI_of hc195 p197
            obtain ⟨f200, p201⟩ := mf_20 hO188 hc195
            have t202 := fI_of hc195 p201
            obtain ⟨f203, p204⟩ := mf_21 hO188 hc195
            have t205 := fI_of hc195 p204
            obtain ⟨f206, p207⟩ := mf_22 hO188 hc195
            have t208 := fI_of hc195 p207
            obtain ⟨f209, p210, t211⟩ := mf_23 hO188 hc195
            have t212 := fI_of hc195 p210
            have t213 := fI_keep (k := 19) hO0 hO188 hv188 rfl (by decide)
            refine ur_inl rfl (rcv_of hc195) (Nat.le_of_ble_eq_true rfl) (Nat.le_of_ble_eq_true rfl) (sf_X12_either n rec hO188 (by omega) (by omega) (fun w214 h221 hr215 hO221 hv221 hp216 hp217 hp218 hp219 hp220 => ?_))
            have hu221 := hv221
            subst hr215
            show uRun _ (uCall Mt _) _ 105 (_, [], _, _, _)
            refine ur_ldA rfl rfl ?_
            obtain ⟨fs222, hc223⟩ := hO221.mod
            obtain ⟨f224, p225⟩ := mf_21 hO221 hc223
            have t226 := fI_of hc223 p225
            refine ur_get rfl hc223 p225 ?_
            refine ur_if1 rfl (fun c227 => ?_) (fun c227 => ?_)
            · have t228 := lt_to c227
              refine ur_ldA rfl rfl ?_
              obtain ⟨f229, p230, t231⟩ := mf_19 hO221 hc223
              have t232 := fI_of hc223 p230
              obtain ⟨f233, p234⟩ := mf_20 hO221 hc223
              have t235 := fI_of hc223 p234
              have t236 := fI_keep (k := 19) hO188 hO221 hv221 rfl (by decide)
              refine ur_inl rfl (rcv_of hc223) (Nat.le_of_ble_eq_true rfl) (Nat.le_of_ble_eq_true rfl) (sf_X12_look hO221 (by omega) (fun w237 hr238 => ?_))
              obtain ⟨x239, rfl, t240⟩ := hr238
              show uRun _ (uCall Mt _) _ 117 (_, [(.inl x239)], _, _, _)
              refine ur_push rfl ?_
              refine ur_if2 rfl (fun c241 => ?_) (fun c241 => ?_)
              · have t242 := eq_to c241
                refine ur_ldA rfl rfl ?_
                refine ur_dup rfl rfl ?_
                refine ur_get rfl hc223 p234 ?_
                have t243 : 0 ≤ f233.toInt ∧ f233.toInt ≤ 120 := by omega
                refine ur_push rfl ?_
                refine ur_binV rfl (fun x244 e245 => ?_)
                have z246 := any_r f233
                have t247 := ti_add e245 (by omega) (by omega)
                obtain ⟨f248, p249⟩ := mf_22 hO221 hc223
                have t250 := fI_of hc223 p249
                obtain ⟨f251, p252, t253⟩ := mf_23 hO221 hc223
                have t254 := fI_of hc223 p252
                refine ur_putM (W := []) rfl hO221 hc223 (by decide) rfl (ms_20 (hO221.msh hc223)) (Or.inl rfl) (fun h256 hO256 hv256 d255 hc257 => ?_)
                have hu256 : un [83, 84] h221 h256 := hv256.mono (by decide)
                have t258 := fI_of hc257 (gs_ne p230 (by decide))
                have t259 := fI_of hc257 (gs_eq p234)
                have t260 := fI_of hc257 (gs_ne p225 (by decide))
                have t261 := fI_of hc257 (gs_ne p249 (by decide))
                have t262 := fI_of hc257 (gs_ne p252 (by decide))
                refine ur_ldA rfl rfl ?_
                refine ur_dup rfl rfl ?_
                refine ur_get rfl hc257 (gs_ne p249 (by decide)) ?_
                refine ur_push rfl ?_
                refine ur_binV rfl (fun x263 e264 => ?_)
                have z265 := any_r f248
                have t266 : 0 ≤ f248.toInt → x263.toInt = f248.toInt - (1 : Int32).toInt := fun q => by have := any_r f248; exact ti_sub e264 (by omega) (by omega)
                refine ur_putM (W := []) rfl hO256 hc257 (by decide) rfl (ms_22 (hO256.msh hc257)) (Or.inl rfl) (fun h268 hO268 hv268 d267 hc269 => ?_)
                have hu268 : un [83, 84] h256 h268 := hv268.mono (by decide)
                have t270 := fI_of hc269 (gs_ne (gs_ne p230 (by decide)) (by decide))
                have t271 := fI_of hc269 (gs_ne (gs_eq p234) (by decide))
                have t272 := fI_of hc269 (gs_ne (gs_ne p225 (by decide)) (by decide))
                have t273 := fI_of hc269 (gs_eq (gs_ne p249 (by decide)))
                have t274 := fI_of hc269 (gs_ne (gs_ne p252 (by decide)) (by decide))
                refine ur_go rfl ?_
                exact ur_ret0 rfl (hQ _ _ rfl hO268 (hu188.tr (hu221.tr (hu256.tr hu268))) (by omega) (by omega) (by omega) (kp.tr (n := (iL h0)) (kp.tr (n := (iL h0)) (kp.tr (n := (iL h0)) (kp.tr (n := (iL h0)) kp.rf (kp_un hO0 hv188 (by decide) (by decide) (iL h0)) (Nat.le_refl _)) hp219 (by unfold iL; omega)) (kp_un hO221 hv256 (by decide) (by decide) (iL h0)) (Nat.le_refl _)) (kp_un hO256 hv268 (by decide) (by decide) (iL h0)) (Nat.le_refl _)) (fun q => (bk_cast ((hp220 (by omega)).keep (kp.tr (n := (iL h221)) (kp.tr (n := (iL h221)) kp.rf (kp_un hO221 hv256 (by decide) (by decide) (iL h221)) (Nat.le_refl _)) (kp_un hO256 hv268 (by decide) (by decide) (iL h221)) (Nat.le_refl _))) (by unfold iL; omega) (by unfold iL; omega))))
              · have t275 := eq_no c241
                refine ur_ldA rfl rfl ?_
                obtain ⟨f276, p277⟩ := mf_22 hO221 hc223
                have t278 := fI_of hc223 p277
                obtain ⟨f279, p280, t281⟩ := mf_23 hO221 hc223
                have t282 := fI_of hc223 p280
                refine ur_inl rfl (rcv_of hc223) (Nat.le_of_ble_eq_true rfl) (Nat.le_of_ble_eq_true rfl) (sf_X12_wrong hO221  (fun w283 h287 hr284 hO287 hv287 hp285 hp286 => ?_))
                have hu287 : un [83, 84] h221 h287 := hv287.mono (by decide)
                subst hr284
                show uRun _ (uCall Mt _) _ 126 (_, [], _, _, _)
                obtain ⟨fs288, hc289⟩ := hO287.mod
                obtain ⟨f290, p291, t292⟩ := mf_19 hO287 hc289
                have t293 := fI_of hc289 p291
                obtain ⟨f294, p295⟩ := mf_20 hO287 hc289
                have t296 := fI_of hc289 p295
                obtain ⟨f297, p298⟩ := mf_21 hO287 hc289
                have t299 := fI_of hc289 p298
                obtain ⟨f300, p301⟩ := mf_22 hO287 hc289
                have t302 := fI_of hc289 p301
                obtain ⟨f303, p304, t305⟩ := mf_23 hO287 hc289
                have t306 := fI_of hc289 p304
                have t307 := fI_keep (k := 19) hO221 hO287 hv287 rfl (by decide)
                exact ur_ret0 rfl (hQ _ _ rfl hO287 (hu188.tr (hu221.tr hu287)) (by omega) (by omega) (by omega) (kp.tr (n := (iL h0)) (kp.tr (n := (iL h0)) (kp.tr (n := (iL h0)) kp.rf (kp_un hO0 hv188 (by decide) (by decide) (iL h0)) (Nat.le_refl _)) hp219 (by unfold iL; omega)) (kp_un hO221 hv287 (by decide) (by decide) (iL h0)) (Nat.le_refl _)) (fun q => (bk_cast ((hp220 (by omega)).keep (kp.tr (n := (iL h221)) kp.rf (kp_un hO221 hv287 (by decide) (by decide) (iL h221)) (Nat.le_refl _))) (by unfold iL; omega) (by unfold iL; omega))))
            · have t308 := lt_no c227
              obtain ⟨f309, p310, t311⟩ := mf_19 hO221 hc223
              have t312 := fI_of hc223 p310
              obtain ⟨f313, p314⟩ := mf_20 hO221 hc223
              have t315 := fI_of hc223 p314
              obtain ⟨f316, p317⟩ := mf_22 hO221 hc223
              have t318 := fI_of hc223 p317
              obtain ⟨f319, p320, t321⟩ := mf_23 hO221 hc223
              have t322 := fI_of hc223 p320
              have t323 := fI_keep (k := 19) hO188 hO221 hv221 rfl (by decide)
              exact ur_ret0 rfl (hQ _ _ rfl hO221 (hu188.tr hu221) (by omega) (by omega) (by omega) (kp.tr (n := (iL h0)) (kp.tr (n := (iL h0)) kp.rf (kp_un hO0 hv188 (by decide) (by decide) (iL h0)) (Nat.le_refl _)) hp219 (by unfold iL; omega)) (fun q => (bk_cast (hp220 (by omega)) (by unfold iL; omega) (by unfold iL; omega))))
          · have t324 := t191 c192
            obtain ⟨fs325, hc326⟩ := hO188.mod
            obtain ⟨f327, p328, t329⟩ := mf_19 hO188 hc326
            have t330 := fI_of hc326 p328
            obtain ⟨f331, p332⟩ := mf_20 hO188 hc326
            have t333 := fI_of hc326 p332
            obtain ⟨f334, p335⟩ := mf_21 hO188 hc326
            have t336 := fI_of hc326 p335
            obtain ⟨f337, p338⟩ := mf_22 hO188 hc326
            have t339 := fI_of hc326 p338
            obtain ⟨f340, p341, t342⟩ := mf_23 hO188 hc326
            have t343 := fI_of hc326 p341
            have t344 := fI_keep (k := 19) hO0 hO188 hv188 rfl (by decide)
            exact ur_ret0 rfl (hQ _ _ rfl hO188 hu188 (by omega) (by omega) (by omega) (kp.tr (n := (iL h0)) kp.rf (kp_un hO0 hv188 (by decide) (by decide) (iL h0)) (Nat.le_refl _)) (fun q => absurd q (by omega)))
      · have t345 := ne_no c152
        refine ur_ldA rfl rfl ?_
        refine ur_inl rfl (rcv_of hc2) (Nat.le_of_ble_eq_true rfl) (Nat.le_of_ble_eq_true rfl) (sf_X12_opens hO0 (by omega) (by omega) (fun w346 h349 hr347 hO349 hv349 hp348 => ?_))
        have hu349 : un [83, 84] h0 h349 := hv349.mono (by decide)
        obtain ⟨b350, rfl, t351, t352⟩ := hr347
        show uRun _ (uCall Mt _) _ 50 (_, [(.inl (bi b350))], _, _, _)
        refine ur_neB rfl (fun c353 => ?_) (fun c353 => ?_)
        · have t354 := t351 c353
          refine ur_ldA rfl rfl ?_
          obtain ⟨fs355, hc356⟩ := hO349.mod
          obtain ⟨f357, p358, t359⟩ := mf_19 hO349 hc356
          have t360 := fI_of hc356 p358
          obtain ⟨f361, p362⟩ := mf_20 hO349 hc356
          have t363 := fI_of hc356 p362
          obtain ⟨f364, p365⟩ := mf_21 hO349 hc356
          have t366 := fI_of hc356 p365
          obtain ⟨f367, p368⟩ := mf_22 hO349 hc356
          have t369 := fI_of hc356 p368
          obtain ⟨f370, p371, t372⟩ := mf_23 hO349 hc356
          have t373 := fI_of hc356 p371
          have t374 := fI_keep (k := 19) hO0 hO349 hv349 rfl (by decide)
          refine ur_inl rfl (rcv_of hc356) (Nat.le_of_ble_eq_true rfl) (Nat.le_of_ble_eq_true rfl) (rec9 hO349 (by omega) (by omega) (fun w375 h382 hr376 hO382 hv382 hp377 hp378 hp379 hp380 hp381 => ?_))
          have hu382 := hv382
          subst hr376
          show uRun _ (uCall Mt _) _ 58 (_, [], _, _, _)
          refine ur_ldA rfl rfl ?_
          refine ur_dup rfl rfl ?_
          obtain ⟨fs383, hc384⟩ := hO382.mod
          obtain ⟨f385, p386⟩ := mf_22 hO382 hc384
          have t387 := fI_of hc384 p386
          refine ur_get rfl hc384 p386 ?_
          refine ur_push rfl ?_
          refine ur_binV rfl (fun x388 e389 => ?_)
          have z390 := any_r f385
          have t391 : 0 ≤ f385.toInt → x388.toInt = f385.toInt - (1 : Int32).toInt := fun q => by have := any_r f385; exact ti_sub e389 (by omega) (by omega)
          obtain ⟨f392, p393, t394⟩ := mf_19 hO382 hc384
          have t395 := fI_of hc384 p393
          obtain ⟨f396, p397⟩ := mf_20 hO382 hc384
          have t398 := fI_of hc384 p397
          obtain ⟨f399, p400⟩ := mf_21 hO382 hc384
          have t401 := fI_of hc384 p400
          obtain ⟨f402, p403, t404⟩ := mf_23 hO382 hc384
          have t405 := fI_of hc384 p403
          refine ur_putM (W := []) rfl hO382 hc384 (by decide) rfl (ms_22 (hO382.msh hc384)) (Or.inl rfl) (fun h407 hO407 hv407 d406 hc408 => ?_)
          have hu407 : un [83, 84] h382 h407 := hv407.mono (by decide)
          have t409 := fI_of hc408 (gs_ne p393 (by decide))
          have t410 := fI_of hc408 (gs_ne p397 (by decide))
          have t411 := fI_of hc408 (gs_ne p400 (by decide))
          have t412 := fI_of hc408 (gs_eq p386)
          have t413 := fI_of hc408 (gs_ne p403 (by decide))
          refine ur_ldA rfl rfl ?_
          refine ur_ldI rfl rfl ?_
          refine ur_push rfl ?_
          refine ur_if2 rfl (fun c414 => ?_) (fun c414 => ?_)
          · have t415 := ne_to c414
            refine ur_push rfl ?_
            refine ur_push rfl ?_
            have t416 := fI_keep (k := 19) hO349 hO382 hv382 rfl (by decide)
            refine ur_inl rfl (rcv_of hc408) (Nat.le_of_ble_eq_true rfl) (Nat.le_of_ble_eq_true rfl) (sf_X12_lay hO407 _ (by show 1 ≤ (4 : Int32).toInt ∧ (4 : Int32).toInt ≤ 124; omega) _ (by omega) (fun w417 h422 hr418 hO422 hv422 hp419 hp420 hp421 => ?_))
            have hu422 := hv422
            subst hr418
            show uRun _ (uCall Mt _) _ 84 (_, [], _, _, _)
            refine ur_go rfl ?_
            obtain ⟨fs423, hc424⟩ := hO422.mod
            obtain ⟨f425, p426, t427⟩ := mf_19 hO422 hc424
            have t428 := fI_of hc424 p426
            obtain ⟨f429, p430⟩ := mf_20 hO422 hc424
            have t431 := fI_of hc424 p430
            obtain ⟨f432, p433⟩ := mf_21 hO422 hc424
            have t434 := fI_of hc424 p433
            obtain ⟨f435, p436⟩ := mf_22 hO422 hc424
            have t437 := fI_of hc424 p436
            obtain ⟨f438, p439, t440⟩ := mf_23 hO422 hc424
            have t441 := fI_of hc424 p439
            have t442 := fI_keep (k := 19) hO407 hO422 hv422 rfl (by decide)
            exact ur_ret0 rfl (hQ _ _ rfl hO422 (hu349.tr (hu382.tr (hu407.tr hu422))) (by omega) (by omega) (by omega) (kp.tr (n := (iL h0)) (kp.tr (n := (iL h0)) (kp.tr (n := (iL h0)) (kp.tr (n := (iL h0)) kp.rf (kp_un hO0 hv349 (by decide) (by decide) (iL h0)) (Nat.le_refl _)) hp380 (by unfold iL; omega)) (kp_un hO382 hv407 (by decide) (by decide) (iL h0)) (Nat.le_refl _)) hp420 (by unfold iL; omega)) (fun q => (bk_cast (bk_un (hp381 (by omega)) (kp.tr (n := (iL h382)) (kp.tr (n := (iL h382)) kp.rf (kp_un hO382 hv407 (by decide) (by decide) (iL h382)) (Nat.le_refl _)) hp420 (by unfold iL; omega)) hp421 (by unfold iL; omega) (by omega) rfl (by unfold iL; omega)) (by unfold iL; omega) (by unfold iL; omega))))
          · have t443 := ne_no c414
            exfalso
            omega
        · have t444 := t352 c353
          obtain ⟨fs445, hc446⟩ := hO349.mod
          obtain ⟨f447, p448, t449⟩ := mf_19 hO349 hc446
          have t450 := fI_of hc446 p448
          obtain ⟨f451, p452⟩ := mf_20 hO349 hc446
          have t453 := fI_of hc446 p452
          obtain ⟨f454, p455⟩ := mf_21 hO349 hc446
          have t456 := fI_of hc446 p455
          obtain ⟨f457, p458⟩ := mf_22 hO349 hc446
          have t459 := fI_of hc446 p458
          obtain ⟨f460, p461, t462⟩ := mf_23 hO349 hc446
          have t463 := fI_of hc446 p461
          have t464 := fI_keep (k := 19) hO0 hO349 hv349 rfl (by decide)
          exact ur_ret0 rfl (hQ _ _ rfl hO349 hu349 (by omega) (by omega) (by omega) (kp.tr (n := (iL h0)) kp.rf (kp_un hO0 hv349 (by decide) (by decide) (iL h0)) (Nat.le_refl _)) (fun q => absurd q (by omega)))
  · have t465 := lt_no c28
    refine ur_ldA rfl rfl ?_
    refine ur_push rfl ?_
    refine ur_ldI rfl rfl ?_
    refine ur_inl rfl rfl (Nat.le_of_ble_eq_true rfl) (Nat.le_of_ble_eq_true rfl) (sg_nameOf _ (fun w466 hr467 => ?_))
    obtain ⟨x468, rfl, t469⟩ := hr467
    show uRun _ (uCall Mt _) _ 18 (_, [(.inl x468), (.inl 2), (.inr (.inr (some 69)))], _, _, _)
    refine ur_inl rfl (rcv_of hc2) (Nat.le_of_ble_eq_true rfl) (Nat.le_of_ble_eq_true rfl) (sf_X12_lay hO0 _ (by show 1 ≤ (2 : Int32).toInt ∧ (2 : Int32).toInt ≤ 124; omega) _ (by omega) (fun w470 h475 hr471 hO475 hv475 hp472 hp473 hp474 => ?_))
    have hu475 := hv475
    subst hr471
    show uRun _ (uCall Mt _) _ 21 (_, [], _, _, _)
    refine ur_ldA rfl rfl ?_
    refine ur_dup rfl rfl ?_
    obtain ⟨fs476, hc477⟩ := hO475.mod
    obtain ⟨f478, p479⟩ := mf_20 hO475 hc477
    have t480 := fI_of hc477 p479
    refine ur_get rfl hc477 p479 ?_
    obtain ⟨f481, p482, t483⟩ := mf_19 hO475 hc477
    have t484 := fI_of hc477 p482
    have t485 := fI_keep (k := 19) hO0 hO475 hv475 rfl (by decide)
    have t486 : 0 ≤ f478.toInt ∧ f478.toInt ≤ 120 := by omega
    refine ur_push rfl ?_
    refine ur_binV rfl (fun x487 e488 => ?_)
    have z489 := any_r f478
    have t490 := ti_add e488 (by omega) (by omega)
    obtain ⟨f491, p492⟩ := mf_21 hO475 hc477
    have t493 := fI_of hc477 p492
    obtain ⟨f494, p495⟩ := mf_22 hO475 hc477
    have t496 := fI_of hc477 p495
    obtain ⟨f497, p498, t499⟩ := mf_23 hO475 hc477
    have t500 := fI_of hc477 p498
    refine ur_putM (W := []) rfl hO475 hc477 (by decide) rfl (ms_20 (hO475.msh hc477)) (Or.inl rfl) (fun h502 hO502 hv502 d501 hc503 => ?_)
    have hu502 : un [83, 84] h475 h502 := hv502.mono (by decide)
    have t504 := fI_of hc503 (gs_ne p482 (by decide))
    have t505 := fI_of hc503 (gs_eq p479)
    have t506 := fI_of hc503 (gs_ne p492 (by decide))
    have t507 := fI_of hc503 (gs_ne p495 (by decide))
    have t508 := fI_of hc503 (gs_ne p498 (by decide))
    refine ur_go rfl ?_
    exact ur_ret0 rfl (hQ _ _ rfl hO502 (hu475.tr hu502) (by omega) (by omega) (by omega) (kp.tr (n := (iL h0)) (kp.tr (n := (iL h0)) kp.rf hp473 (by unfold iL; omega)) (kp_un hO475 hv502 (by decide) (by decide) (iL h0)) (Nat.le_refl _)) (fun q => (bk_cast ((bk_push hp474 (by omega) rfl rfl).keep (kp.tr (n := (iL h0 + 1)) kp.rf (kp_un hO475 hv502 (by decide) (by decide) (iL h0 + 1)) (Nat.le_refl _))) (by unfold iL; omega) (by unfold iL; omega))))

set_option maxRecDepth 20000 in
set_option maxHeartbeats 4000000 in
theorem sf_X12_op_0 {d kc ks : Nat} {h0 : aH} {Q : Option aV → aH → Prop} (hO0 : OK h0)  (pre0 : 0 ≤ fI h0 20 ∧ fI h0 20 ≤ fI h0 19 ∧ fI h0 21 < 0 ∧ fI h0 23 ≤ fI h0 20) (pre1 : fI h0 22 = 6) (hQ : ∀ r h', (r = none) → OK h' → un [83, 84] h0 h' → (fI h0 20 ≤ fI h' 20 ∧ fI h' 20 ≤ fI h' 19 ∧ fI h' 19 = fI h0 19) → (fI h0 23 ≤ fI h' 23 ∧ fI h' 23 - fI h' 20 ≤ fI h0 23 - fI h0 20 + 1) → (fI h' 21 < 0 → fI h' 23 - fI h' 20 ≤ fI h0 23 - fI h0 20 ∧ fI h' 22 = fI h0 22 ∧ fI h0 23 < fI h' 23) → (kp h0 h' (iL h0)) → (fI h' 21 < 0 → bk h' (iL h0) (iL h')) → Q r h') : uCall Mt (d + 4) 219 [(.inr (.inr (some 69)))] h0 kc ks Q := by
  have l_0 : ((0) : Int32).toInt = 0 := by decide
  have l_1 : ((1) : Int32).toInt = 1 := by decide
  have l_2 : ((2) : Int32).toInt = 2 := by decide
  have l_33 : ((33) : Int32).toInt = 33 := by decide
  have l_40 : ((40) : Int32).toInt = 40 := by decide
  have l_45 : ((45) : Int32).toInt = 45 := by decide
  refine uc_ink [some (.inr (.inr (some 69))), none] mt_219 (Nat.le_of_ble_eq_true rfl) rfl ?_
  obtain ⟨fs1, hc2⟩ := hO0.mod
  obtain ⟨f3, p4, t5⟩ := mf_19 hO0 hc2
  have t6 := fI_of hc2 p4
  obtain ⟨f7, p8⟩ := mf_20 hO0 hc2
  have t9 := fI_of hc2 p8
  obtain ⟨f10, p11⟩ := mf_21 hO0 hc2
  have t12 := fI_of hc2 p11
  obtain ⟨f13, p14⟩ := mf_22 hO0 hc2
  have t15 := fI_of hc2 p14
  obtain ⟨f16, p17, t18⟩ := mf_23 hO0 hc2
  have t19 := fI_of hc2 p17
  refine ur_ldA rfl rfl ?_
  refine ur_inl rfl (rcv_of hc2) (Nat.le_of_ble_eq_true rfl) (Nat.le_of_ble_eq_true rfl) (sf_X12_look hO0 (by omega) (fun w20 hr21 => ?_))
  obtain ⟨x22, rfl, t23⟩ := hr21
  show uRun _ (uCall Mt _) _ 4 (_, [(.inl x22)], _, _, _)
  refine ur_svIk [some (.inr (.inr (some 69))), some (.inl x22)] rfl rfl ?_
  refine ur_ldI rfl rfl ?_
  refine ur_inl rfl rfl (Nat.le_of_ble_eq_true rfl) (Nat.le_of_ble_eq_true rfl) (sg_nameOf _ (fun w24 hr25 => ?_))
  obtain ⟨x26, rfl, t27⟩ := hr25
  show uRun _ (uCall Mt _) _ 9 (_, [(.inl x26)], _, _, _)
  refine ur_if1 rfl (fun c28 => ?_) (fun c28 => ?_)
  · have t29 := lt_to c28
    refine ur_ldI rfl rfl ?_
    refine ur_push rfl ?_
    refine ur_if2 rfl (fun c30 => ?_) (fun c30 => ?_)
    · have t31 := eq_to c30
      refine ur_ldA rfl rfl ?_
      refine ur_inl rfl (rcv_of hc2) (Nat.le_of_ble_eq_true rfl) (Nat.le_of_ble_eq_true rfl) (sf_X12_opens hO0 (by omega) (by omega) (fun w32 h35 hr33 hO35 hv35 hp34 => ?_))
      have hu35 : un [83, 84] h0 h35 := hv35.mono (by decide)
      obtain ⟨b36, rfl, t37, t38⟩ := hr33
      show uRun _ (uCall Mt _) _ 50 (_, [(.inl (bi b36))], _, _, _)
      refine ur_neB rfl (fun c39 => ?_) (fun c39 => ?_)
      · have t40 := t37 c39
        exfalso
        omega
      · have t41 := t38 c39
        obtain ⟨fs42, hc43⟩ := hO35.mod
        obtain ⟨f44, p45, t46⟩ := mf_19 hO35 hc43
        have t47 := fI_of hc43 p45
        obtain ⟨f48, p49⟩ := mf_20 hO35 hc43
        have t50 := fI_of hc43 p49
        obtain ⟨f51, p52⟩ := mf_21 hO35 hc43
        have t53 := fI_of hc43 p52
        obtain ⟨f54, p55⟩ := mf_22 hO35 hc43
        have t56 := fI_of hc43 p55
        obtain ⟨f57, p58, t59⟩ := mf_23 hO35 hc43
        have t60 := fI_of hc43 p58
        have t61 := fI_keep (k := 19) hO0 hO35 hv35 rfl (by decide)
        exact ur_ret0 rfl (hQ _ _ rfl hO35 hu35 (by omega) (by omega) (by omega) (kp.tr (n := (iL h0)) kp.rf (kp_un hO0 hv35 (by decide) (by decide) (iL h0)) (Nat.le_refl _)) (fun q => absurd q (by omega)))
    · have t62 := eq_no c30
      refine ur_ldI rfl rfl ?_
      refine ur_push rfl ?_
      refine ur_if2 rfl (fun c63 => ?_) (fun c63 => ?_)
      · have t64 := ne_to c63
        refine ur_ldI rfl rfl ?_
        refine ur_push rfl ?_
        refine ur_if2 rfl (fun c65 => ?_) (fun c65 => ?_)
        · have t66 := ne_to c65
          refine ur_ldA rfl rfl ?_
          refine ur_inl rfl (rcv_of hc2) (Nat.le_of_ble_eq_true rfl) (Nat.le_of_ble_eq_true rfl) (sf_X12_number hO0 (by omega) (fun w67 h74 hr68 hO74 hv74 hp69 hp70 hp71 hp72 hp73 => ?_))
          have hu74 := hv74
          subst hr68
          show uRun _ (uCall Mt _) _ 154 (_, [], _, _, _)
          obtain ⟨fs75, hc76⟩ := hO74.mod
          obtain ⟨f77, p78, t79⟩ := mf_19 hO74 hc76
          have t80 := fI_of hc76 p78
          obtain ⟨f81, p82⟩ := mf_20 hO74 hc76
          have t83 := fI_of hc76 p82
          obtain ⟨f84, p85⟩ := mf_21 hO74 hc76
          have t86 := fI_of hc76 p85
          obtain ⟨f87, p88⟩ := mf_22 hO74 hc76
          have t89 := fI_of hc76 p88
          obtain ⟨f90, p91, t92⟩ := mf_23 hO74 hc76
          have t93 := fI_of hc76 p91
          have t94 := fI_keep (k := 19) hO0 hO74 hv74 rfl (by decide)
          exact ur_ret0 rfl (hQ _ _ rfl hO74 hu74 (by omega) (by omega) (by omega) (kp.tr (n := (iL h0)) kp.rf hp72 (by unfold iL; omega)) (fun q => (bk_cast (hp73 (by omega)) (by unfold iL; omega) (by unfold iL; omega))))
        · have t95 := ne_no c65
          refine ur_ldA rfl rfl ?_
          refine ur_inl rfl (rcv_of hc2) (Nat.le_of_ble_eq_true rfl) (Nat.le_of_ble_eq_true rfl) (sf_X12_opens hO0 (by omega) (by omega) (fun w96 h99 hr97 hO99 hv99 hp98 => ?_))
          have hu99 : un [83, 84] h0 h99 := hv99.mono (by decide)
          obtain ⟨b100, rfl, t101, t102⟩ := hr97
          show uRun _ (uCall Mt _) _ 97 (_, [(.inl (bi b100))], _, _, _)
          refine ur_neB rfl (fun c103 => ?_) (fun c103 => ?_)
          · have t104 := t101 c103
            exfalso
            omega
          · have t105 := t102 c103
            obtain ⟨fs106, hc107⟩ := hO99.mod
            obtain ⟨f108, p109, t110⟩ := mf_19 hO99 hc107
            have t111 := fI_of hc107 p109
            obtain ⟨f112, p113⟩ := mf_20 hO99 hc107
            have t114 := fI_of hc107 p113
            obtain ⟨f115, p116⟩ := mf_21 hO99 hc107
            have t117 := fI_of hc107 p116
            obtain ⟨f118, p119⟩ := mf_22 hO99 hc107
            have t120 := fI_of hc107 p119
            obtain ⟨f121, p122, t123⟩ := mf_23 hO99 hc107
            have t124 := fI_of hc107 p122
            have t125 := fI_keep (k := 19) hO0 hO99 hv99 rfl (by decide)
            exact ur_ret0 rfl (hQ _ _ rfl hO99 hu99 (by omega) (by omega) (by omega) (kp.tr (n := (iL h0)) kp.rf (kp_un hO0 hv99 (by decide) (by decide) (iL h0)) (Nat.le_refl _)) (fun q => absurd q (by omega)))
      · have t126 := ne_no c63
        refine ur_ldA rfl rfl ?_
        refine ur_inl rfl (rcv_of hc2) (Nat.le_of_ble_eq_true rfl) (Nat.le_of_ble_eq_true rfl) (sf_X12_opens hO0 (by omega) (by omega) (fun w127 h130 hr128 hO130 hv130 hp129 => ?_))
        have hu130 : un [83, 84] h0 h130 := hv130.mono (by decide)
        obtain ⟨b131, rfl, t132, t133⟩ := hr128
        show uRun _ (uCall Mt _) _ 50 (_, [(.inl (bi b131))], _, _, _)
        refine ur_neB rfl (fun c134 => ?_) (fun c134 => ?_)
        · have t135 := t132 c134
          exfalso
          omega
        · have t136 := t133 c134
          obtain ⟨fs137, hc138⟩ := hO130.mod
          obtain ⟨f139, p140, t141⟩ := mf_19 hO130 hc138
          have t142 := fI_of hc138 p140
          obtain ⟨f143, p144⟩ := mf_20 hO130 hc138
          have t145 := fI_of hc138 p144
          obtain ⟨f146, p147⟩ := mf_21 hO130 hc138
          have t148 := fI_of hc138 p147
          obtain ⟨f149, p150⟩ := mf_22 hO130 hc138
          have t151 := fI_of hc138 p150
          obtain ⟨f152, p153, t154⟩ := mf_23 hO130 hc138
          have t155 := fI_of hc138 p153
          have t156 := fI_keep (k := 19) hO0 hO130 hv130 rfl (by decide)
          exact ur_ret0 rfl (hQ _ _ rfl hO130 hu130 (by omega) (by omega) (by omega) (kp.tr (n := (iL h0)) kp.rf (kp_un hO0 hv130 (by decide) (by decide) (iL h0)) (Nat.le_refl _)) (fun q => absurd q (by omega)))
  · have t157 := lt_no c28
    refine ur_ldA rfl rfl ?_
    refine ur_push rfl ?_
    refine ur_ldI rfl rfl ?_
    refine ur_inl rfl rfl (Nat.le_of_ble_eq_true rfl) (Nat.le_of_ble_eq_true rfl) (sg_nameOf _ (fun w158 hr159 => ?_))
    obtain ⟨x160, rfl, t161⟩ := hr159
    show uRun _ (uCall Mt _) _ 18 (_, [(.inl x160), (.inl 2), (.inr (.inr (some 69)))], _, _, _)
    refine ur_inl rfl (rcv_of hc2) (Nat.le_of_ble_eq_true rfl) (Nat.le_of_ble_eq_true rfl) (sf_X12_lay hO0 _ (by show 1 ≤ (2 : Int32).toInt ∧ (2 : Int32).toInt ≤ 124; omega) _ (by omega) (fun w162 h167 hr163 hO167 hv167 hp164 hp165 hp166 => ?_))
    have hu167 := hv167
    subst hr163
    show uRun _ (uCall Mt _) _ 21 (_, [], _, _, _)
    refine ur_ldA rfl rfl ?_
    refine ur_dup rfl rfl ?_
    obtain ⟨fs168, hc169⟩ := hO167.mod
    obtain ⟨f170, p171⟩ := mf_20 hO167 hc169
    have t172 := fI_of hc169 p171
    refine ur_get rfl hc169 p171 ?_
    obtain ⟨f173, p174, t175⟩ := mf_19 hO167 hc169
    have t176 := fI_of hc169 p174
    have t177 := fI_keep (k := 19) hO0 hO167 hv167 rfl (by decide)
    have t178 : 0 ≤ f170.toInt ∧ f170.toInt ≤ 120 := by omega
    refine ur_push rfl ?_
    refine ur_binV rfl (fun x179 e180 => ?_)
    have z181 := any_r f170
    have t182 := ti_add e180 (by omega) (by omega)
    obtain ⟨f183, p184⟩ := mf_21 hO167 hc169
    have t185 := fI_of hc169 p184
    obtain ⟨f186, p187⟩ := mf_22 hO167 hc169
    have t188 := fI_of hc169 p187
    obtain ⟨f189, p190, t191⟩ := mf_23 hO167 hc169
    have t192 := fI_of hc169 p190
    refine ur_putM (W := []) rfl hO167 hc169 (by decide) rfl (ms_20 (hO167.msh hc169)) (Or.inl rfl) (fun h194 hO194 hv194 d193 hc195 => ?_)
    have hu194 : un [83, 84] h167 h194 := hv194.mono (by decide)
    have t196 := fI_of hc195 (gs_ne p174 (by decide))
    have t197 := fI_of hc195 (gs_eq p171)
    have t198 := fI_of hc195 (gs_ne p184 (by decide))
    have t199 := fI_of hc195 (gs_ne p187 (by decide))
    have t200 := fI_of hc195 (gs_ne p190 (by decide))
    refine ur_go rfl ?_
    exact ur_ret0 rfl (hQ _ _ rfl hO194 (hu167.tr hu194) (by omega) (by omega) (by omega) (kp.tr (n := (iL h0)) (kp.tr (n := (iL h0)) kp.rf hp165 (by unfold iL; omega)) (kp_un hO167 hv194 (by decide) (by decide) (iL h0)) (Nat.le_refl _)) (fun q => (bk_cast ((bk_push hp166 (by omega) rfl rfl).keep (kp.tr (n := (iL h0 + 1)) kp.rf (kp_un hO167 hv194 (by decide) (by decide) (iL h0 + 1)) (Nat.le_refl _))) (by unfold iL; omega) (by unfold iL; omega))))

theorem sf_X12_op (n : Nat) : ∀ {d kc ks : Nat} {h0 : aH} {Q : Option aV → aH → Prop}, OK h0 → (0 ≤ fI h0 20 ∧ fI h0 20 ≤ fI h0 19 ∧ fI h0 21 < 0 ∧ fI h0 23 ≤ fI h0 20) → (0 ≤ fI h0 22 ∧ fI h0 22 ≤ 6 ∧ 6 ≤ fI h0 22 + (n : Int)) → (∀ r h', (r = none) → OK h' → un [83, 84] h0 h' → (fI h0 20 ≤ fI h' 20 ∧ fI h' 20 ≤ fI h' 19 ∧ fI h' 19 = fI h0 19) → (fI h0 23 ≤ fI h' 23 ∧ fI h' 23 - fI h' 20 ≤ fI h0 23 - fI h0 20 + 1) → (fI h' 21 < 0 → fI h' 23 - fI h' 20 ≤ fI h0 23 - fI h0 20 ∧ fI h' 22 = fI h0 22 ∧ fI h0 23 < fI h' 23) → (kp h0 h' (iL h0)) → (fI h' 21 < 0 → bk h' (iL h0) (iL h')) → Q r h') → uCall Mt (d + 6 * n + 4) 219 [(.inr (.inr (some 69)))] h0 kc ks Q := by
  induction n with
  | zero => exact fun hO a b k => sf_X12_op_0 hO a (by omega) k
  | succ n ih => exact fun {d kc ks h0 Q} hO a b k => uCall_le (show d + 6 * n + 10 ≤ d + 6 * (n + 1) + 4 by omega) (sf_X12_op_s (d := d + 6 * n) n (fun {kc ks h0 Q} hO a b k => ih hO a b k) (fun {kc ks h0 Q} hO a b k => uCall_le (show d + 6 * n + 4 ≤ d + 6 * n + 9 by omega) (ih hO a b k)) hO a b k)
theorem sf_X12_rE {d kc ks : Nat} {h0 : aH} {Q : Option aV → aH → Prop} (hO : OK h0) (a : 0 ≤ fI h0 20 ∧ fI h0 20 ≤ fI h0 19 ∧ fI h0 21 < 0 ∧ fI h0 23 ≤ fI h0 20) (b : 0 ≤ fI h0 22 ∧ fI h0 22 ≤ 6) (hQ : ∀ r h', (r = none) → OK h' → un [83, 84] h0 h' → (fI h0 20 ≤ fI h' 20 ∧ fI h' 20 ≤ fI h' 19 ∧ fI h' 19 = fI h0 19) → (fI h0 23 ≤ fI h' 23 ∧ fI h' 23 - fI h' 20 ≤ fI h0 23 - fI h0 20 + 1) → (fI h' 21 < 0 → fI h' 23 - fI h' 20 ≤ fI h0 23 - fI h0 20 ∧ fI h' 22 = fI h0 22 ∧ fI h0 23 < fI h' 23) → (kp h0 h' (iL h0)) → (fI h' 21 < 0 → bk h' (iL h0) (iL h')) → Q r h') : uCall Mt (d + 45) 224 [(.inr (.inr (some 69)))] h0 kc ks Q := uCall_le (show d + 6 * 6 + 9 ≤ d + 45 by omega) (sf_X12_either (d := d + 6 * 6) 6 (fun {kc ks h0 Q} hO a b k => sf_X12_op 6 hO a b k) hO a (by omega) hQ)
end CU3
