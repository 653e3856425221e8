/-! THE READER OF THE REFERENCE, exactly; printed by program but for its head -/
section TRHb
set_option maxRecDepth 20000 in
set_option maxHeartbeats 4000000 in
theorem st_X12_sum {d kc ks : Nat} {h0 : aH} {Q : Option aV → aH → Prop} {t : Int → Int} (n : Nat) (rec : ∀ {kc ks : Nat} {h0 : aH} {Q : Option aV → aH → Prop}, OK h0 → (tS h0 t) → (0 ≤ fI h0 20 ∧ fI h0 20 ≤ fI h0 19 ∧ fI h0 21 < 0 ∧ fI h0 23 ≤ fI h0 20) → (0 ≤ fI h0 22 ∧ fI h0 22 ≤ 6 ∧ 6 ≤ fI h0 22 + (n : Int)) → (∀ r h', (r = none) → OK h' → un [83, 84] h0 h' → (fI h0 20 ≤ fI h' 20 ∧ fI h' 20 ≤ fI h' 19 ∧ fI h' 19 = fI h0 19) → (fI h0 23 ≤ fI h' 23 ∧ fI h' 23 - fI h' 20 ≤ fI h0 23 - fI h0 20 + 1) → (fI h' 21 < 0 → fI h' 23 - fI h' 20 ≤ fI h0 23 - fI h0 20 ∧ fI h' 22 = fI h0 22 ∧ fI h0 23 < fI h' 23) → (kp h0 h' (iL h0)) → (fI h' 21 < 0 → bk h' (iL h0) (iL h')) → (ROt t 0 (fI h0 22) (fI h0 20) (tkR h0) (fI h' 21) (fI h' 22) (fI h' 20) (tkR h')) → (fI h' 21 ≤ fI h' 19) → Q r h') → uCall Mt (d + 4) 219 [(.inr (.inr (some 69)))] h0 kc ks Q) (hO0 : OK h0)  (pre0 : tS h0 t) (pre1 : 0 ≤ fI h0 20 ∧ fI h0 20 ≤ fI h0 19 ∧ fI h0 21 < 0 ∧ fI h0 23 ≤ fI h0 20) (pre2 : 0 ≤ fI h0 22 ∧ fI h0 22 ≤ 6 ∧ 6 ≤ fI h0 22 + (n : Int)) (hQ : ∀ r h', (r = none) → OK h' → un [83, 84] h0 h' → (fI h0 20 ≤ fI h' 20 ∧ fI h' 20 ≤ fI h' 19 ∧ fI h' 19 = fI h0 19) → (fI h0 23 ≤ fI h' 23 ∧ fI h' 23 - fI h' 20 ≤ fI h0 23 - fI h0 20 + 1) → (fI h' 21 < 0 → fI h' 23 - fI h' 20 ≤ fI h0 23 - fI h0 20 ∧ fI h' 22 = fI h0 22 ∧ fI h0 23 < fI h' 23) → (kp h0 h' (iL h0)) → (fI h' 21 < 0 → bk h' (iL h0) (iL h')) → (ROt t 2 (fI h0 22) (fI h0 20) (tkR h0) (fI h' 21) (fI h' 22) (fI h' 20) (tkR h')) → (fI h' 21 ≤ fI h' 19) → Q r h') : uCall Mt (d + 6) 221 [(.inr (.inr (some 69)))] h0 kc ks Q := by
  have l_0 : ((0) : Int32).toInt = 0 := by decide
  have l_1 : ((1) : Int32).toInt = 1 := by decide
  have l_43 : ((43) : Int32).toInt = 43 := by decide
  have l_45 : ((45) : Int32).toInt = 45 := by decide
  refine uc_ink [some (.inr (.inr (some 69))), none] mt_221 (Nat.le_of_ble_eq_true rfl) rfl ?_
  obtain ⟨fs1, hc2⟩ := hO0.mod
  obtain ⟨f3, p4, t5⟩ := mf_19 hO0 hc2
  have t6 := fI_of hc2 p4
  obtain ⟨f7, p8⟩ := mf_20 hO0 hc2
  have t9 := fI_of hc2 p8
  obtain ⟨f10, p11⟩ := mf_21 hO0 hc2
  have t12 := fI_of hc2 p11
  obtain ⟨f13, p14⟩ := mf_22 hO0 hc2
  have t15 := fI_of hc2 p14
  obtain ⟨f16, p17, t18⟩ := mf_23 hO0 hc2
  have t19 := fI_of hc2 p17
  refine ur_ldA rfl rfl ?_
  refine ur_inl rfl (rcv_of hc2) (Nat.le_of_ble_eq_true rfl) (Nat.le_of_ble_eq_true rfl) (st_X12_product n rec hO0 pre0 (by omega) (by omega) (fun w20 h29 hr21 hO29 hv29 hp22 hp23 hp24 hp25 hp26 hp27 hp28 => ?_))
  have hu29 := hv29
  subst hr21
  show uRun _ (uCall Mt _) _ 4 (_, [], _, _, _)
  obtain ⟨fs34, hc35⟩ := hO29.mod
  obtain ⟨f36, p37, t38⟩ := mf_19 hO29 hc35
  have t39 := fI_of hc35 p37
  obtain ⟨f40, p41⟩ := mf_20 hO29 hc35
  have t42 := fI_of hc35 p41
  obtain ⟨f43, p44⟩ := mf_21 hO29 hc35
  have t45 := fI_of hc35 p44
  obtain ⟨f46, p47⟩ := mf_22 hO29 hc35
  have t48 := fI_of hc35 p47
  obtain ⟨f49, p50, t51⟩ := mf_23 hO29 hc35
  have t52 := fI_of hc35 p50
  have L31 : ∀ (m32 : Nat) (u30 : Option aV) (h53 : aH) , OK h53 → un [83, 84] h29 h53 → ((fI h0 20 ≤ fI h53 20 ∧ fI h53 20 ≤ fI h53 19 ∧ fI h53 19 = fI h0 19) ∧ (fI h0 23 ≤ fI h53 23 ∧ fI h53 23 - fI h53 20 ≤ fI h0 23 - fI h0 20 + 1) ∧ (fI h53 21 < 0 → fI h53 23 - fI h53 20 ≤ fI h0 23 - fI h0 20 ∧ fI h53 22 = fI h0 22 ∧ fI h0 23 < fI h53 23) ∧ (fI h53 21 ≤ fI h53 19)) → (kp h0 h53 (iL h0)) → (fI h53 21 < 0 → bk h53 (iL h0) (iL h53)) → (LOt t 2 (fI h0 22) (fI h0 20) (tkR h0) (fI h53 21) (fI h53 22) (fI h53 20) (tkR h53)) → ((121 - fI h53 20).toNat) < m32 → uRun oX12_sum (uCall Mt (d + 5)) Q 4 ([some (.inr (.inr (some 69))), u30], [], h53, kc, ks) := by
    intro m32
    induction m32 with
    | zero => intro u30 h53 hO53 hu53 iv57 px54 px55 px56 mm58; omega
    | succ m32 ih33 =>
      intro u30 h53 hO53 hu53 iv57 px54 px55 px56 mm58
      obtain ⟨fs59, hc60⟩ := hO53.mod
      obtain ⟨f61, p62, t63⟩ := mf_19 hO53 hc60
      have t64 := fI_of hc60 p62
      obtain ⟨f65, p66⟩ := mf_20 hO53 hc60
      have t67 := fI_of hc60 p66
      obtain ⟨f68, p69⟩ := mf_21 hO53 hc60
      have t70 := fI_of hc60 p69
      obtain ⟨f71, p72⟩ := mf_22 hO53 hc60
      have t73 := fI_of hc60 p72
      obtain ⟨f74, p75, t76⟩ := mf_23 hO53 hc60
      have t77 := fI_of hc60 p75
      refine ur_ldA rfl rfl ?_
      refine ur_get rfl hc60 p69 ?_
      refine ur_if1 rfl (fun c78 => ?_) (fun c78 => ?_)
      · have t79 := le_to c78
        have t80 := fI_keep (k := 19) hO0 hO29 hv29 rfl (by decide)
        exact ur_ret0 rfl (hQ _ _ rfl hO53 (hu29.tr hu53) (by omega) (by omega) (by omega) px54 (fun q => (bk_cast (px55 (by omega)) (by unfold iL; omega) (by unfold iL; omega))) (LOt.done (LOt.cast px56 (by omega) rfl) (by decide) (by decide) (fun q => by omega)) (by omega))
      · have t81 := le_no c78
        refine ur_ldA rfl rfl ?_
        have t82 := fI_keep (k := 19) hO0 hO29 hv29 rfl (by decide)
        refine ur_inl rfl (rcv_of hc60) (Nat.le_of_ble_eq_true rfl) (Nat.le_of_ble_eq_true rfl) (st_X12_look hO53 ((pre0.un hO0 hO29 hv29 (by decide) (by decide)).un hO29 hO53 hu53 (by decide) (by decide)) (by omega) (fun w83 hr84 => ?_))
        obtain ⟨x85, rfl, t86⟩ := hr84
        show uRun _ (uCall Mt _) _ 15 (_, [(.inl x85)], _, _, _)
        refine ur_push rfl ?_
        refine ur_if2 rfl (fun c87 => ?_) (fun c87 => ?_)
        · have t88 := eq_to c87
          refine ur_ldA rfl rfl ?_
          refine ur_inl rfl (rcv_of hc60) (Nat.le_of_ble_eq_true rfl) (Nat.le_of_ble_eq_true rfl) (st_X12_look hO53 ((pre0.un hO0 hO29 hv29 (by decide) (by decide)).un hO29 hO53 hu53 (by decide) (by decide)) (by omega) (fun w89 hr90 => ?_))
          obtain ⟨x91, rfl, t92⟩ := hr90
          show uRun _ (uCall Mt _) _ 33 (_, [(.inl x91)], _, _, _)
          refine ur_svIk [some (.inr (.inr (some 69))), some (.inl x91)] rfl rfl ?_
          refine ur_ldA rfl rfl ?_
          refine ur_dup rfl rfl ?_
          refine ur_get rfl hc60 p66 ?_
          have t93 : 0 ≤ f65.toInt ∧ f65.toInt ≤ 120 := by omega
          refine ur_push rfl ?_
          refine ur_binV rfl (fun x94 e95 => ?_)
          have z96 := any_r f65
          have t97 := ti_add e95 (by omega) (by omega)
          refine ur_putM (W := []) rfl hO53 hc60 (by decide) rfl (ms_20 (hO53.msh hc60)) (Or.inl rfl) (fun h99 hO99 hv99 d98 hc100 => ?_)
          have hu99 : un [83, 84] h53 h99 := hv99.mono (by decide)
          have t101 := fI_of hc100 (gs_ne p62 (by decide))
          have t102 := fI_of hc100 (gs_eq p66)
          have t103 := fI_of hc100 (gs_ne p69 (by decide))
          have t104 := fI_of hc100 (gs_ne p72 (by decide))
          have t105 := fI_of hc100 (gs_ne p75 (by decide))
          refine ur_ldA rfl rfl ?_
          refine ur_inl rfl (rcv_of hc100) (Nat.le_of_ble_eq_true rfl) (Nat.le_of_ble_eq_true rfl) (st_X12_product n rec hO99 (((pre0.un hO0 hO29 hv29 (by decide) (by decide)).un hO29 hO53 hu53 (by decide) (by decide)).un hO53 hO99 hv99 (by decide) (by decide)) (by omega) (by omega) (fun w106 h115 hr107 hO115 hv115 hp108 hp109 hp110 hp111 hp112 hp113 hp114 => ?_))
          have hu115 := hv115
          subst hr107
          show uRun _ (uCall Mt _) _ 48 (_, [], _, _, _)
          refine ur_ldA rfl rfl ?_
          refine ur_ldI rfl rfl ?_
          refine ur_push rfl ?_
          obtain ⟨fs116, hc117⟩ := hO115.mod
          obtain ⟨f118, p119, t120⟩ := mf_19 hO115 hc117
          have t121 := fI_of hc117 p119
          obtain ⟨f122, p123⟩ := mf_20 hO115 hc117
          have t124 := fI_of hc117 p123
          obtain ⟨f125, p126⟩ := mf_21 hO115 hc117
          have t127 := fI_of hc117 p126
          obtain ⟨f128, p129⟩ := mf_22 hO115 hc117
          have t130 := fI_of hc117 p129
          obtain ⟨f131, p132, t133⟩ := mf_23 hO115 hc117
          have t134 := fI_of hc117 p132
          have t135 := fI_keep (k := 19) hO99 hO115 hv115 rfl (by decide)
          refine ur_inl rfl (rcv_of hc117) (Nat.le_of_ble_eq_true rfl) (Nat.le_of_ble_eq_true rfl) (sf_X12_lay hO115 _ (by show 1 ≤ x91.toInt ∧ x91.toInt ≤ 124; omega) _ (by omega) (fun w136 h141 hr137 hO141 hv141 hp138 hp139 hp140 => ?_))
          have hu141 := hv141
          subst hr137
          show uRun _ (uCall Mt _) _ 54 (_, [], _, _, _)
          refine ur_go rfl ?_
          obtain ⟨fs142, hc143⟩ := hO141.mod
          obtain ⟨f144, p145, t146⟩ := mf_19 hO141 hc143
          have t147 := fI_of hc143 p145
          obtain ⟨f148, p149⟩ := mf_20 hO141 hc143
          have t150 := fI_of hc143 p149
          obtain ⟨f151, p152⟩ := mf_21 hO141 hc143
          have t153 := fI_of hc143 p152
          obtain ⟨f154, p155⟩ := mf_22 hO141 hc143
          have t156 := fI_of hc143 p155
          obtain ⟨f157, p158, t159⟩ := mf_23 hO141 hc143
          have t160 := fI_of hc143 p158
          exact ih33 _ _ hO141 (hu53.tr (hu99.tr (hu115.tr hu141))) (by omega) (kp.tr (n := (iL h0)) (kp.tr (n := (iL h0)) (kp.tr (n := (iL h0)) px54 (kp_un hO53 hv99 (by decide) (by decide) (iL h0)) (Nat.le_refl _)) hp111 (by unfold iL; omega)) hp139 (by unfold iL; omega)) (fun q => (bk_cast (bk_bin (px55 (by omega)) (kp.tr (n := (iL h53)) (kp.tr (n := (iL h53)) kp.rf (kp_un hO53 hv99 (by decide) (by decide) (iL h53)) (Nat.le_refl _)) hp111 (by unfold iL; omega)) (hp112 (by omega)) (by unfold iL; omega) (kp.tr (n := (iL h115)) kp.rf hp139 (by unfold iL; omega)) hp140 (by unfold iL; omega) (by omega) rfl (by unfold iL; omega) (by unfold iL; omega)) (by unfold iL; omega) (by unfold iL; omega))) (LOt.op (c := 43) (f1 := fI h53 21) (o1 := fI h53 22) (p1 := fI h53 20) (LOt.cast px56 (by omega) rfl) (by omega) (tS.cl pre0 t86.1 (by omega) (by decide)) (by unfold iop; decide) (by decide) (by decide) (by decide) hp113 rfl (by omega) (by omega) (tkR_kp (kp_un hO53 hv99 (by decide) (by decide) (iL h53)) (by omega)) (tkR_2 (tkR_lay hp139 hp140 (by omega) (by omega)) rfl (by omega)) l_0 (by omega)) (by omega)
        · have t161 := eq_no c87
          refine ur_ldA rfl rfl ?_
          refine ur_inl rfl (rcv_of hc60) (Nat.le_of_ble_eq_true rfl) (Nat.le_of_ble_eq_true rfl) (st_X12_look hO53 ((pre0.un hO0 hO29 hv29 (by decide) (by decide)).un hO29 hO53 hu53 (by decide) (by decide)) (by omega) (fun w162 hr163 => ?_))
          obtain ⟨x164, rfl, t165⟩ := hr163
          show uRun _ (uCall Mt _) _ 24 (_, [(.inl x164)], _, _, _)
          refine ur_push rfl ?_
          refine ur_if2 rfl (fun c166 => ?_) (fun c166 => ?_)
          · have t167 := ne_to c166
            exact ur_ret0 rfl (hQ _ _ rfl hO53 (hu29.tr hu53) (by omega) (by omega) (by omega) px54 (fun q => (bk_cast (px55 (by omega)) (by unfold iL; omega) (by unfold iL; omega))) (LOt.done (LOt.cast px56 (by omega) rfl) (by decide) (by decide) (fun q => iop_no t165.1 (by unfold iop; omega))) (by omega))
          · have t168 := ne_no c166
            refine ur_ldA rfl rfl ?_
            refine ur_inl rfl (rcv_of hc60) (Nat.le_of_ble_eq_true rfl) (Nat.le_of_ble_eq_true rfl) (st_X12_look hO53 ((pre0.un hO0 hO29 hv29 (by decide) (by decide)).un hO29 hO53 hu53 (by decide) (by decide)) (by omega) (fun w169 hr170 => ?_))
            obtain ⟨x171, rfl, t172⟩ := hr170
            show uRun _ (uCall Mt _) _ 33 (_, [(.inl x171)], _, _, _)
            refine ur_svIk [some (.inr (.inr (some 69))), some (.inl x171)] rfl rfl ?_
            refine ur_ldA rfl rfl ?_
            refine ur_dup rfl rfl ?_
            refine ur_get rfl hc60 p66 ?_
            have t173 : 0 ≤ f65.toInt ∧ f65.toInt ≤ 120 := by omega
            refine ur_push rfl ?_
            refine ur_binV rfl (fun x174 e175 => ?_)
            have z176 := any_r f65
            have t177 := ti_add e175 (by omega) (by omega)
            refine ur_putM (W := []) rfl hO53 hc60 (by decide) rfl (ms_20 (hO53.msh hc60)) (Or.inl rfl) (fun h179 hO179 hv179 d178 hc180 => ?_)
            have hu179 : un [83, 84] h53 h179 := hv179.mono (by decide)
            have t181 := fI_of hc180 (gs_ne p62 (by decide))
            have t182 := fI_of hc180 (gs_eq p66)
            have t183 := fI_of hc180 (gs_ne p69 (by decide))
            have t184 := fI_of hc180 (gs_ne p72 (by decide))
            have t185 := fI_of hc180 (gs_ne p75 (by decide))
            refine ur_ldA rfl rfl ?_
            refine ur_inl rfl (rcv_of hc180) (Nat.le_of_ble_eq_true rfl) (Nat.le_of_ble_eq_true rfl) (st_X12_product n rec hO179 (((pre0.un hO0 hO29 hv29 (by decide) (by decide)).un hO29 hO53 hu53 (by decide) (by decide)).un hO53 hO179 hv179 (by decide) (by decide)) (by omega) (by omega) (fun w186 h195 hr187 hO195 hv195 hp188 hp189 hp190 hp191 hp192 hp193 hp194 => ?_))
            have hu195 := hv195
            subst hr187
            show uRun _ (uCall Mt _) _ 48 (_, [], _, _, _)
            refine ur_ldA rfl rfl ?_
            refine ur_ldI rfl rfl ?_
            refine ur_push rfl ?_
            obtain ⟨fs196, hc197⟩ := hO195.mod
            obtain ⟨f198, p199, t200⟩ := mf_19 hO195 hc197
            have t201 := fI_of hc197 p199
            obtain ⟨f202, p203⟩ := mf_20 hO195 hc197
            have t204 := fI_of hc197 p203
            obtain ⟨f205, p206⟩ := mf_21 hO195 hc197
            have t207 := fI_of hc197 p206
            obtain ⟨f208, p209⟩ := mf_22 hO195 hc197
            have t210 := fI_of hc197 p209
            obtain ⟨f211, p212, t213⟩ := mf_23 hO195 hc197
            have t214 := fI_of hc197 p212
            have t215 := fI_keep (k := 19) hO179 hO195 hv195 rfl (by decide)
            refine ur_inl rfl (rcv_of hc197) (Nat.le_of_ble_eq_true rfl) (Nat.le_of_ble_eq_true rfl) (sf_X12_lay hO195 _ (by show 1 ≤ x171.toInt ∧ x171.toInt ≤ 124; omega) _ (by omega) (fun w216 h221 hr217 hO221 hv221 hp218 hp219 hp220 => ?_))
            have hu221 := hv221
            subst hr217
            show uRun _ (uCall Mt _) _ 54 (_, [], _, _, _)
            refine ur_go rfl ?_
            obtain ⟨fs222, hc223⟩ := hO221.mod
            obtain ⟨f224, p225, t226⟩ := mf_19 hO221 hc223
            have t227 := fI_of hc223 p225
            obtain ⟨f228, p229⟩ := mf_20 hO221 hc223
            have t230 := fI_of hc223 p229
            obtain ⟨f231, p232⟩ := mf_21 hO221 hc223
            have t233 := fI_of hc223 p232
            obtain ⟨f234, p235⟩ := mf_22 hO221 hc223
            have t236 := fI_of hc223 p235
            obtain ⟨f237, p238, t239⟩ := mf_23 hO221 hc223
            have t240 := fI_of hc223 p238
            exact ih33 _ _ hO221 (hu53.tr (hu179.tr (hu195.tr hu221))) (by omega) (kp.tr (n := (iL h0)) (kp.tr (n := (iL h0)) (kp.tr (n := (iL h0)) px54 (kp_un hO53 hv179 (by decide) (by decide) (iL h0)) (Nat.le_refl _)) hp191 (by unfold iL; omega)) hp219 (by unfold iL; omega)) (fun q => (bk_cast (bk_bin (px55 (by omega)) (kp.tr (n := (iL h53)) (kp.tr (n := (iL h53)) kp.rf (kp_un hO53 hv179 (by decide) (by decide) (iL h53)) (Nat.le_refl _)) hp191 (by unfold iL; omega)) (hp192 (by omega)) (by unfold iL; omega) (kp.tr (n := (iL h195)) kp.rf hp219 (by unfold iL; omega)) hp220 (by unfold iL; omega) (by omega) rfl (by unfold iL; omega) (by unfold iL; omega)) (by unfold iL; omega) (by unfold iL; omega))) (LOt.op (c := 45) (f1 := fI h53 21) (o1 := fI h53 22) (p1 := fI h53 20) (LOt.cast px56 (by omega) rfl) (by omega) (tS.cl pre0 t165.1 (by omega) (by decide)) (by unfold iop; decide) (by decide) (by decide) (by decide) hp193 rfl (by omega) (by omega) (tkR_kp (kp_un hO53 hv179 (by decide) (by decide) (iL h53)) (by omega)) (tkR_2 (tkR_lay hp219 hp220 (by omega) (by omega)) rfl (by omega)) l_0 (by omega)) (by omega)
  exact L31 _ (none) _ hO29 un.rf (by omega) (kp.tr (n := (iL h0)) kp.rf hp25 (by unfold iL; omega)) (fun q => (bk_cast (hp26 (by omega)) (by unfold iL; omega) (by unfold iL; omega))) (ROt.up hp27 rfl (by decide) (by decide)) (Nat.lt_succ_self _)

set_option maxRecDepth 20000 in
set_option maxHeartbeats 4000000 in
theorem st_X12_compared {d kc ks : Nat} {h0 : aH} {Q : Option aV → aH → Prop} {t : Int → Int} (n : Nat) (rec : ∀ {kc ks : Nat} {h0 : aH} {Q : Option aV → aH → Prop}, OK h0 → (tS h0 t) → (0 ≤ fI h0 20 ∧ fI h0 20 ≤ fI h0 19 ∧ fI h0 21 < 0 ∧ fI h0 23 ≤ fI h0 20) → (0 ≤ fI h0 22 ∧ fI h0 22 ≤ 6 ∧ 6 ≤ fI h0 22 + (n : Int)) → (∀ r h', (r = none) → OK h' → un [83, 84] h0 h' → (fI h0 20 ≤ fI h' 20 ∧ fI h' 20 ≤ fI h' 19 ∧ fI h' 19 = fI h0 19) → (fI h0 23 ≤ fI h' 23 ∧ fI h' 23 - fI h' 20 ≤ fI h0 23 - fI h0 20 + 1) → (fI h' 21 < 0 → fI h' 23 - fI h' 20 ≤ fI h0 23 - fI h0 20 ∧ fI h' 22 = fI h0 22 ∧ fI h0 23 < fI h' 23) → (kp h0 h' (iL h0)) → (fI h' 21 < 0 → bk h' (iL h0) (iL h')) → (ROt t 0 (fI h0 22) (fI h0 20) (tkR h0) (fI h' 21) (fI h' 22) (fI h' 20) (tkR h')) → (fI h' 21 ≤ fI h' 19) → Q r h') → uCall Mt (d + 4) 219 [(.inr (.inr (some 69)))] h0 kc ks Q) (hO0 : OK h0)  (pre0 : tS h0 t) (pre1 : 0 ≤ fI h0 20 ∧ fI h0 20 ≤ fI h0 19 ∧ fI h0 21 < 0 ∧ fI h0 23 ≤ fI h0 20) (pre2 : 0 ≤ fI h0 22 ∧ fI h0 22 ≤ 6 ∧ 6 ≤ fI h0 22 + (n : Int)) (hQ : ∀ r h', (r = none) → OK h' → un [83, 84] h0 h' → (fI h0 20 ≤ fI h' 20 ∧ fI h' 20 ≤ fI h' 19 ∧ fI h' 19 = fI h0 19) → (fI h0 23 ≤ fI h' 23 ∧ fI h' 23 - fI h' 20 ≤ fI h0 23 - fI h0 20 + 1) → (fI h' 21 < 0 → fI h' 23 - fI h' 20 ≤ fI h0 23 - fI h0 20 ∧ fI h' 22 = fI h0 22 ∧ fI h0 23 < fI h' 23) → (kp h0 h' (iL h0)) → (fI h' 21 < 0 → bk h' (iL h0) (iL h')) → (ROt t 3 (fI h0 22) (fI h0 20) (tkR h0) (fI h' 21) (fI h' 22) (fI h' 20) (tkR h')) → (fI h' 21 ≤ fI h' 19) → Q r h') : uCall Mt (d + 7) 222 [(.inr (.inr (some 69)))] h0 kc ks Q := by
  have l_0 : ((0) : Int32).toInt = 0 := by decide
  have l_1 : ((1) : Int32).toInt = 1 := by decide
  have l_60 : ((60) : Int32).toInt = 60 := by decide
  have l_61 : ((61) : Int32).toInt = 61 := by decide
  have l_62 : ((62) : Int32).toInt = 62 := by decide
  refine uc_ink [some (.inr (.inr (some 69))), none] mt_222 (Nat.le_of_ble_eq_true rfl) rfl ?_
  obtain ⟨fs1, hc2⟩ := hO0.mod
  obtain ⟨f3, p4, t5⟩ := mf_19 hO0 hc2
  have t6 := fI_of hc2 p4
  obtain ⟨f7, p8⟩ := mf_20 hO0 hc2
  have t9 := fI_of hc2 p8
  obtain ⟨f10, p11⟩ := mf_21 hO0 hc2
  have t12 := fI_of hc2 p11
  obtain ⟨f13, p14⟩ := mf_22 hO0 hc2
  have t15 := fI_of hc2 p14
  obtain ⟨f16, p17, t18⟩ := mf_23 hO0 hc2
  have t19 := fI_of hc2 p17
  refine ur_ldA rfl rfl ?_
  refine ur_inl rfl (rcv_of hc2) (Nat.le_of_ble_eq_true rfl) (Nat.le_of_ble_eq_true rfl) (st_X12_sum n rec hO0 pre0 (by omega) (by omega) (fun w20 h29 hr21 hO29 hv29 hp22 hp23 hp24 hp25 hp26 hp27 hp28 => ?_))
  have hu29 := hv29
  subst hr21
  show uRun _ (uCall Mt _) _ 4 (_, [], _, _, _)
  refine ur_ldA rfl rfl ?_
  obtain ⟨fs30, hc31⟩ := hO29.mod
  obtain ⟨f32, p33, t34⟩ := mf_19 hO29 hc31
  have t35 := fI_of hc31 p33
  obtain ⟨f36, p37⟩ := mf_20 hO29 hc31
  have t38 := fI_of hc31 p37
  have t39 := fI_keep (k := 19) hO0 hO29 hv29 rfl (by decide)
  refine ur_inl rfl (rcv_of hc31) (Nat.le_of_ble_eq_true rfl) (Nat.le_of_ble_eq_true rfl) (st_X12_look hO29 (pre0.un hO0 hO29 hv29 (by decide) (by decide)) (by omega) (fun w40 hr41 => ?_))
  obtain ⟨x42, rfl, t43⟩ := hr41
  show uRun _ (uCall Mt _) _ 8 (_, [(.inl x42)], _, _, _)
  refine ur_svIk [some (.inr (.inr (some 69))), some (.inl x42)] rfl rfl ?_
  refine ur_ldA rfl rfl ?_
  obtain ⟨f44, p45⟩ := mf_21 hO29 hc31
  have t46 := fI_of hc31 p45
  refine ur_get rfl hc31 p45 ?_
  refine ur_if1 rfl (fun c47 => ?_) (fun c47 => ?_)
  · have t48 := le_to c47
    obtain ⟨f49, p50⟩ := mf_22 hO29 hc31
    have t51 := fI_of hc31 p50
    obtain ⟨f52, p53, t54⟩ := mf_23 hO29 hc31
    have t55 := fI_of hc31 p53
    exact ur_ret0 rfl (hQ _ _ rfl hO29 hu29 (by omega) (by omega) (by omega) (kp.tr (n := (iL h0)) kp.rf hp25 (by unfold iL; omega)) (fun q => (bk_cast (hp26 (by omega)) (by unfold iL; omega) (by unfold iL; omega))) (LOt.done (LOt.cast (ROt.up (l := 3) hp27 rfl (by decide) (by decide)) (by omega) rfl) (by decide) (by decide) (fun q => iop_no t43.1 (by unfold iop; omega))) (by omega))
  · have t56 := le_no c47
    refine ur_ldI rfl rfl ?_
    refine ur_push rfl ?_
    refine ur_if2 rfl (fun c57 => ?_) (fun c57 => ?_)
    · have t58 := eq_to c57
      refine ur_ldA rfl rfl ?_
      refine ur_dup rfl rfl ?_
      refine ur_get rfl hc31 p37 ?_
      have t59 : 0 ≤ f36.toInt ∧ f36.toInt ≤ 120 := by omega
      refine ur_push rfl ?_
      refine ur_binV rfl (fun x60 e61 => ?_)
      have z62 := any_r f36
      have t63 := ti_add e61 (by omega) (by omega)
      obtain ⟨f64, p65⟩ := mf_22 hO29 hc31
      have t66 := fI_of hc31 p65
      obtain ⟨f67, p68, t69⟩ := mf_23 hO29 hc31
      have t70 := fI_of hc31 p68
      refine ur_putM (W := []) rfl hO29 hc31 (by decide) rfl (ms_20 (hO29.msh hc31)) (Or.inl rfl) (fun h72 hO72 hv72 d71 hc73 => ?_)
      have hu72 : un [83, 84] h29 h72 := hv72.mono (by decide)
      have t74 := fI_of hc73 (gs_ne p33 (by decide))
      have t75 := fI_of hc73 (gs_eq p37)
      have t76 := fI_of hc73 (gs_ne p45 (by decide))
      have t77 := fI_of hc73 (gs_ne p65 (by decide))
      have t78 := fI_of hc73 (gs_ne p68 (by decide))
      refine ur_ldA rfl rfl ?_
      refine ur_inl rfl (rcv_of hc73) (Nat.le_of_ble_eq_true rfl) (Nat.le_of_ble_eq_true rfl) (st_X12_sum n rec hO72 ((pre0.un hO0 hO29 hv29 (by decide) (by decide)).un hO29 hO72 hv72 (by decide) (by decide)) (by omega) (by omega) (fun w79 h88 hr80 hO88 hv88 hp81 hp82 hp83 hp84 hp85 hp86 hp87 => ?_))
      have hu88 := hv88
      subst hr80
      show uRun _ (uCall Mt _) _ 49 (_, [], _, _, _)
      refine ur_ldA rfl rfl ?_
      refine ur_ldI rfl rfl ?_
      refine ur_push rfl ?_
      obtain ⟨fs89, hc90⟩ := hO88.mod
      obtain ⟨f91, p92, t93⟩ := mf_19 hO88 hc90
      have t94 := fI_of hc90 p92
      obtain ⟨f95, p96⟩ := mf_20 hO88 hc90
      have t97 := fI_of hc90 p96
      obtain ⟨f98, p99⟩ := mf_21 hO88 hc90
      have t100 := fI_of hc90 p99
      obtain ⟨f101, p102⟩ := mf_22 hO88 hc90
      have t103 := fI_of hc90 p102
      obtain ⟨f104, p105, t106⟩ := mf_23 hO88 hc90
      have t107 := fI_of hc90 p105
      have t108 := fI_keep (k := 19) hO72 hO88 hv88 rfl (by decide)
      refine ur_inl rfl (rcv_of hc90) (Nat.le_of_ble_eq_true rfl) (Nat.le_of_ble_eq_true rfl) (sf_X12_lay hO88 _ (by show 1 ≤ x42.toInt ∧ x42.toInt ≤ 124; omega) _ (by omega) (fun w109 h114 hr110 hO114 hv114 hp111 hp112 hp113 => ?_))
      have hu114 := hv114
      subst hr110
      show uRun _ (uCall Mt _) _ 55 (_, [], _, _, _)
      obtain ⟨fs115, hc116⟩ := hO114.mod
      obtain ⟨f117, p118, t119⟩ := mf_19 hO114 hc116
      have t120 := fI_of hc116 p118
      obtain ⟨f121, p122⟩ := mf_20 hO114 hc116
      have t123 := fI_of hc116 p122
      obtain ⟨f124, p125⟩ := mf_21 hO114 hc116
      have t126 := fI_of hc116 p125
      obtain ⟨f127, p128⟩ := mf_22 hO114 hc116
      have t129 := fI_of hc116 p128
      obtain ⟨f130, p131, t132⟩ := mf_23 hO114 hc116
      have t133 := fI_of hc116 p131
      have t134 := fI_keep (k := 19) hO88 hO114 hv114 rfl (by decide)
      exact ur_ret0 rfl (hQ _ _ rfl hO114 (hu29.tr (hu72.tr (hu88.tr hu114))) (by omega) (by omega) (by omega) (kp.tr (n := (iL h0)) (kp.tr (n := (iL h0)) (kp.tr (n := (iL h0)) (kp.tr (n := (iL h0)) kp.rf hp25 (by unfold iL; omega)) (kp_un hO29 hv72 (by decide) (by decide) (iL h0)) (Nat.le_refl _)) hp84 (by unfold iL; omega)) hp112 (by unfold iL; omega)) (fun q => (bk_cast (bk_bin (hp26 (by omega)) (kp.tr (n := (iL h29)) (kp.tr (n := (iL h29)) kp.rf (kp_un hO29 hv72 (by decide) (by decide) (iL h29)) (Nat.le_refl _)) hp84 (by unfold iL; omega)) (hp85 (by omega)) (by unfold iL; omega) (kp.tr (n := (iL h88)) kp.rf hp112 (by unfold iL; omega)) hp113 (by unfold iL; omega) (by omega) rfl (by unfold iL; omega) (by unfold iL; omega)) (by unfold iL; omega) (by unfold iL; omega))) (LOt.op3 (c := 60) (f1 := fI h29 21) (o1 := fI h29 22) (p1 := fI h29 20) (LOt.cast (ROt.up (l := 3) hp27 rfl (by decide) (by decide)) (by omega) rfl) (by omega) (tS.cl pre0 t43.1 (by omega) (by decide)) (by unfold iop; decide) hp86 (by omega) (by omega) (tkR_kp (kp_un hO29 hv72 (by decide) (by decide) (iL h29)) (by omega)) (tkR_2 (tkR_lay hp112 hp113 (by omega) (by omega)) rfl (by omega)) l_0 (by omega)) (by omega))
    · have t135 := eq_no c57
      refine ur_ldI rfl rfl ?_
      refine ur_push rfl ?_
      refine ur_if2 rfl (fun c136 => ?_) (fun c136 => ?_)
      · have t137 := eq_to c136
        refine ur_ldA rfl rfl ?_
        refine ur_dup rfl rfl ?_
        refine ur_get rfl hc31 p37 ?_
        have t138 : 0 ≤ f36.toInt ∧ f36.toInt ≤ 120 := by omega
        refine ur_push rfl ?_
        refine ur_binV rfl (fun x139 e140 => ?_)
        have z141 := any_r f36
        have t142 := ti_add e140 (by omega) (by omega)
        obtain ⟨f143, p144⟩ := mf_22 hO29 hc31
        have t145 := fI_of hc31 p144
        obtain ⟨f146, p147, t148⟩ := mf_23 hO29 hc31
        have t149 := fI_of hc31 p147
        refine ur_putM (W := []) rfl hO29 hc31 (by decide) rfl (ms_20 (hO29.msh hc31)) (Or.inl rfl) (fun h151 hO151 hv151 d150 hc152 => ?_)
        have hu151 : un [83, 84] h29 h151 := hv151.mono (by decide)
        have t153 := fI_of hc152 (gs_ne p33 (by decide))
        have t154 := fI_of hc152 (gs_eq p37)
        have t155 := fI_of hc152 (gs_ne p45 (by decide))
        have t156 := fI_of hc152 (gs_ne p144 (by decide))
        have t157 := fI_of hc152 (gs_ne p147 (by decide))
        refine ur_ldA rfl rfl ?_
        refine ur_inl rfl (rcv_of hc152) (Nat.le_of_ble_eq_true rfl) (Nat.le_of_ble_eq_true rfl) (st_X12_sum n rec hO151 ((pre0.un hO0 hO29 hv29 (by decide) (by decide)).un hO29 hO151 hv151 (by decide) (by decide)) (by omega) (by omega) (fun w158 h167 hr159 hO167 hv167 hp160 hp161 hp162 hp163 hp164 hp165 hp166 => ?_))
        have hu167 := hv167
        subst hr159
        show uRun _ (uCall Mt _) _ 49 (_, [], _, _, _)
        refine ur_ldA rfl rfl ?_
        refine ur_ldI rfl rfl ?_
        refine ur_push rfl ?_
        obtain ⟨fs168, hc169⟩ := hO167.mod
        obtain ⟨f170, p171, t172⟩ := mf_19 hO167 hc169
        have t173 := fI_of hc169 p171
        obtain ⟨f174, p175⟩ := mf_20 hO167 hc169
        have t176 := fI_of hc169 p175
        obtain ⟨f177, p178⟩ := mf_21 hO167 hc169
        have t179 := fI_of hc169 p178
        obtain ⟨f180, p181⟩ := mf_22 hO167 hc169
        have t182 := fI_of hc169 p181
        obtain ⟨f183, p184, t185⟩ := mf_23 hO167 hc169
        have t186 := fI_of hc169 p184
        have t187 := fI_keep (k := 19) hO151 hO167 hv167 rfl (by decide)
        refine ur_inl rfl (rcv_of hc169) (Nat.le_of_ble_eq_true rfl) (Nat.le_of_ble_eq_true rfl) (sf_X12_lay hO167 _ (by show 1 ≤ x42.toInt ∧ x42.toInt ≤ 124; omega) _ (by omega) (fun w188 h193 hr189 hO193 hv193 hp190 hp191 hp192 => ?_))
        have hu193 := hv193
        subst hr189
        show uRun _ (uCall Mt _) _ 55 (_, [], _, _, _)
        obtain ⟨fs194, hc195⟩ := hO193.mod
        obtain ⟨f196, p197, t198⟩ := mf_19 hO193 hc195
        have t199 := fI_of hc195 p197
        obtain ⟨f200, p201⟩ := mf_20 hO193 hc195
        have t202 := fI_of hc195 p201
        obtain ⟨f203, p204⟩ := mf_21 hO193 hc195
        have t205 := fI_of hc195 p204
        obtain ⟨f206, p207⟩ := mf_22 hO193 hc195
        have t208 := fI_of hc195 p207
        obtain ⟨f209, p210, t211⟩ := mf_23 hO193 hc195
        have t212 := fI_of hc195 p210
        have t213 := fI_keep (k := 19) hO167 hO193 hv193 rfl (by decide)
        exact ur_ret0 rfl (hQ _ _ rfl hO193 (hu29.tr (hu151.tr (hu167.tr hu193))) (by omega) (by omega) (by omega) (kp.tr (n := (iL h0)) (kp.tr (n := (iL h0)) (kp.tr (n := (iL h0)) (kp.tr (n := (iL h0)) kp.rf hp25 (by unfold iL; omega)) (kp_un hO29 hv151 (by decide) (by decide) (iL h0)) (Nat.le_refl _)) hp163 (by unfold iL; omega)) hp191 (by unfold iL; omega)) (fun q => (bk_cast (bk_bin (hp26 (by omega)) (kp.tr (n := (iL h29)) (kp.tr (n := (iL h29)) kp.rf (kp_un hO29 hv151 (by decide) (by decide) (iL h29)) (Nat.le_refl _)) hp163 (by unfold iL; omega)) (hp164 (by omega)) (by unfold iL; omega) (kp.tr (n := (iL h167)) kp.rf hp191 (by unfold iL; omega)) hp192 (by unfold iL; omega) (by omega) rfl (by unfold iL; omega) (by unfold iL; omega)) (by unfold iL; omega) (by unfold iL; omega))) (LOt.op3 (c := 61) (f1 := fI h29 21) (o1 := fI h29 22) (p1 := fI h29 20) (LOt.cast (ROt.up (l := 3) hp27 rfl (by decide) (by decide)) (by omega) rfl) (by omega) (tS.cl pre0 t43.1 (by omega) (by decide)) (by unfold iop; decide) hp165 (by omega) (by omega) (tkR_kp (kp_un hO29 hv151 (by decide) (by decide) (iL h29)) (by omega)) (tkR_2 (tkR_lay hp191 hp192 (by omega) (by omega)) rfl (by omega)) l_0 (by omega)) (by omega))
      · have t214 := eq_no c136
        refine ur_ldI rfl rfl ?_
        refine ur_push rfl ?_
        refine ur_if2 rfl (fun c215 => ?_) (fun c215 => ?_)
        · have t216 := eq_to c215
          refine ur_ldA rfl rfl ?_
          refine ur_dup rfl rfl ?_
          refine ur_get rfl hc31 p37 ?_
          have t217 : 0 ≤ f36.toInt ∧ f36.toInt ≤ 120 := by omega
          refine ur_push rfl ?_
          refine ur_binV rfl (fun x218 e219 => ?_)
          have z220 := any_r f36
          have t221 := ti_add e219 (by omega) (by omega)
          obtain ⟨f222, p223⟩ := mf_22 hO29 hc31
          have t224 := fI_of hc31 p223
          obtain ⟨f225, p226, t227⟩ := mf_23 hO29 hc31
          have t228 := fI_of hc31 p226
          refine ur_putM (W := []) rfl hO29 hc31 (by decide) rfl (ms_20 (hO29.msh hc31)) (Or.inl rfl) (fun h230 hO230 hv230 d229 hc231 => ?_)
          have hu230 : un [83, 84] h29 h230 := hv230.mono (by decide)
          have t232 := fI_of hc231 (gs_ne p33 (by decide))
          have t233 := fI_of hc231 (gs_eq p37)
          have t234 := fI_of hc231 (gs_ne p45 (by decide))
          have t235 := fI_of hc231 (gs_ne p223 (by decide))
          have t236 := fI_of hc231 (gs_ne p226 (by decide))
          refine ur_ldA rfl rfl ?_
          refine ur_inl rfl (rcv_of hc231) (Nat.le_of_ble_eq_true rfl) (Nat.le_of_ble_eq_true rfl) (st_X12_sum n rec hO230 ((pre0.un hO0 hO29 hv29 (by decide) (by decide)).un hO29 hO230 hv230 (by decide) (by decide)) (by omega) (by omega) (fun w237 h246 hr238 hO246 hv246 hp239 hp240 hp241 hp242 hp243 hp244 hp245 => ?_))
          have hu246 := hv246
          subst hr238
          show uRun _ (uCall Mt _) _ 49 (_, [], _, _, _)
          refine ur_ldA rfl rfl ?_
          refine ur_ldI rfl rfl ?_
          refine ur_push rfl ?_
          obtain ⟨fs247, hc248⟩ := hO246.mod
          obtain ⟨f249, p250, t251⟩ := mf_19 hO246 hc248
          have t252 := fI_of hc248 p250
          obtain ⟨f253, p254⟩ := mf_20 hO246 hc248
          have t255 := fI_of hc248 p254
          obtain ⟨f256, p257⟩ := mf_21 hO246 hc248
          have t258 := fI_of hc248 p257
          obtain ⟨f259, p260⟩ := mf_22 hO246 hc248
          have t261 := fI_of hc248 p260
          obtain ⟨f262, p263, t264⟩ := mf_23 hO246 hc248
          have t265 := fI_of hc248 p263
          have t266 := fI_keep (k := 19) hO230 hO246 hv246 rfl (by decide)
          refine ur_inl rfl (rcv_of hc248) (Nat.le_of_ble_eq_true rfl) (Nat.le_of_ble_eq_true rfl) (sf_X12_lay hO246 _ (by show 1 ≤ x42.toInt ∧ x42.toInt ≤ 124; omega) _ (by omega) (fun w267 h272 hr268 hO272 hv272 hp269 hp270 hp271 => ?_))
          have hu272 := hv272
          subst hr268
          show uRun _ (uCall Mt _) _ 55 (_, [], _, _, _)
          obtain ⟨fs273, hc274⟩ := hO272.mod
          obtain ⟨f275, p276, t277⟩ := mf_19 hO272 hc274
          have t278 := fI_of hc274 p276
          obtain ⟨f279, p280⟩ := mf_20 hO272 hc274
          have t281 := fI_of hc274 p280
          obtain ⟨f282, p283⟩ := mf_21 hO272 hc274
          have t284 := fI_of hc274 p283
          obtain ⟨f285, p286⟩ := mf_22 hO272 hc274
          have t287 := fI_of hc274 p286
          obtain ⟨f288, p289, t290⟩ := mf_23 hO272 hc274
          have t291 := fI_of hc274 p289
          have t292 := fI_keep (k := 19) hO246 hO272 hv272 rfl (by decide)
          exact ur_ret0 rfl (hQ _ _ rfl hO272 (hu29.tr (hu230.tr (hu246.tr hu272))) (by omega) (by omega) (by omega) (kp.tr (n := (iL h0)) (kp.tr (n := (iL h0)) (kp.tr (n := (iL h0)) (kp.tr (n := (iL h0)) kp.rf hp25 (by unfold iL; omega)) (kp_un hO29 hv230 (by decide) (by decide) (iL h0)) (Nat.le_refl _)) hp242 (by unfold iL; omega)) hp270 (by unfold iL; omega)) (fun q => (bk_cast (bk_bin (hp26 (by omega)) (kp.tr (n := (iL h29)) (kp.tr (n := (iL h29)) kp.rf (kp_un hO29 hv230 (by decide) (by decide) (iL h29)) (Nat.le_refl _)) hp242 (by unfold iL; omega)) (hp243 (by omega)) (by unfold iL; omega) (kp.tr (n := (iL h246)) kp.rf hp270 (by unfold iL; omega)) hp271 (by unfold iL; omega) (by omega) rfl (by unfold iL; omega) (by unfold iL; omega)) (by unfold iL; omega) (by unfold iL; omega))) (LOt.op3 (c := 62) (f1 := fI h29 21) (o1 := fI h29 22) (p1 := fI h29 20) (LOt.cast (ROt.up (l := 3) hp27 rfl (by decide) (by decide)) (by omega) rfl) (by omega) (tS.cl pre0 t43.1 (by omega) (by decide)) (by unfold iop; decide) hp244 (by omega) (by omega) (tkR_kp (kp_un hO29 hv230 (by decide) (by decide) (iL h29)) (by omega)) (tkR_2 (tkR_lay hp270 hp271 (by omega) (by omega)) rfl (by omega)) l_0 (by omega)) (by omega))
        · have t293 := eq_no c215
          obtain ⟨f294, p295⟩ := mf_22 hO29 hc31
          have t296 := fI_of hc31 p295
          obtain ⟨f297, p298, t299⟩ := mf_23 hO29 hc31
          have t300 := fI_of hc31 p298
          exact ur_ret0 rfl (hQ _ _ rfl hO29 hu29 (by omega) (by omega) (by omega) (kp.tr (n := (iL h0)) kp.rf hp25 (by unfold iL; omega)) (fun q => (bk_cast (hp26 (by omega)) (by unfold iL; omega) (by unfold iL; omega))) (LOt.done (LOt.cast (ROt.up (l := 3) hp27 rfl (by decide) (by decide)) (by omega) rfl) (by decide) (by decide) (fun q => iop_no t43.1 (by unfold iop; omega))) (by omega))
end TRHb
