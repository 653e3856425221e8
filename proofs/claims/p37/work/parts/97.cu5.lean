/-! CONTRACTS of the reference, the eleventh part, printed by program -/
section CU5
set_option maxRecDepth 20000 in
set_option maxHeartbeats 4000000 in
theorem sf_X12_text {d kc ks : Nat} {h0 : aH} {Q : Option aV → aH → Prop} (hO0 : OK h0) (hX0 : SX h0) (a1 : Int32) (hQ : ∀ r h', (∃ x, r = some (.inl x)) → OK h' → un [83, 84, 85, 86, 87, 7919] h0 h' → (SX h') → Q r h') : uCall Mt (d + 47) 227 [(.inr (.inr (some 69))), (.inl a1)] h0 kc ks Q := by
  have l_m100 : ((-100) : Int32).toInt = -100 := by decide
  have l_m1 : ((-1) : Int32).toInt = -1 := by decide
  have l_0 : ((0) : Int32).toInt = 0 := by decide
  have l_1 : ((1) : Int32).toInt = 1 := by decide
  have l_10 : ((10) : Int32).toInt = 10 := by decide
  have l_11 : ((11) : Int32).toInt = 11 := by decide
  have l_18 : ((18) : Int32).toInt = 18 := by decide
  have l_59 : ((59) : Int32).toInt = 59 := by decide
  have l_61 : ((61) : Int32).toInt = 61 := by decide
  have l_130 : ((130) : Int32).toInt = 130 := by decide
  have l_671 : ((671) : Int32).toInt = 671 := by decide
  have l_1430 : ((1430) : Int32).toInt = 1430 := by decide
  refine uc_ink [some (.inr (.inr (some 69))), some (.inl a1), none, none] mt_227 (Nat.le_of_ble_eq_true rfl) rfl ?_
  obtain ⟨fs1, hc2⟩ := hO0.mod
  obtain ⟨f3, p4, t5⟩ := mf_19 hO0 hc2
  have t6 := fI_of hc2 p4
  obtain ⟨f7, p8⟩ := mf_20 hO0 hc2
  have t9 := fI_of hc2 p8
  obtain ⟨f10, p11⟩ := mf_21 hO0 hc2
  have t12 := fI_of hc2 p11
  obtain ⟨f13, p14⟩ := mf_22 hO0 hc2
  have t15 := fI_of hc2 p14
  obtain ⟨f16, p17, t18⟩ := mf_23 hO0 hc2
  have t19 := fI_of hc2 p17
  refine ur_ldI rfl rfl ?_
  refine ur_push rfl ?_
  refine ur_push rfl ?_
  refine ur_callv rfl rfl (Nat.le_of_ble_eq_true rfl) (Nat.le_of_ble_eq_true rfl) rfl (sp_in _ _ _ _ _) ?_
  refine ur_neB rfl (fun c22 => ?_) (fun c22 => ?_)
  · have t23 := wi_toL c22 l_0 l_1
    refine ur_ldA rfl rfl ?_
    refine ur_push rfl ?_
    refine ur_putM (W := []) rfl hO0 hc2 (by decide) rfl (ms_20 (hO0.msh hc2)) (Or.inl rfl) (fun h25 hO25 hv25 d24 hc26 => ?_)
    have hu25 : un [83, 84, 85, 86, 87, 7919] h0 h25 := hv25.mono (by decide)
    have t27 := fI_of hc26 (gs_ne (k := 20) (v := .inl 0) p4 (by decide))
    have t28 := fI_of hc26 (gs_eq (v := .inl 0) p8)
    have t29 := fI_of hc26 (gs_ne (k := 20) (v := .inl 0) p11 (by decide))
    have t30 := fI_of hc26 (gs_ne (k := 20) (v := .inl 0) p14 (by decide))
    have t31 := fI_of hc26 (gs_ne (k := 20) (v := .inl 0) p17 (by decide))
    refine ur_ldA rfl rfl ?_
    refine ur_push rfl ?_
    refine ur_putM (W := []) rfl hO25 hc26 (by decide) rfl (ms_21 (hO25.msh hc26)) (Or.inl rfl) (fun h33 hO33 hv33 d32 hc34 => ?_)
    have hu33 : un [83, 84, 85, 86, 87, 7919] h25 h33 := hv33.mono (by decide)
    have p35 := (gs_ne (k := 21) (v := .inl (-1)) (gs_ne (k := 20) (v := .inl 0) p4 (by decide)) (by decide))
    have p36 := (gs_ne (k := 21) (v := .inl (-1)) (gs_ne (k := 20) (v := .inl 0) p14 (by decide)) (by decide))
    have p37 := (gs_ne (k := 21) (v := .inl (-1)) (gs_ne (k := 20) (v := .inl 0) p17 (by decide)) (by decide))
    have t38 := fI_of hc34 p35
    have t39 := fI_of hc34 (gs_ne (k := 21) (v := .inl (-1)) (gs_eq (v := .inl 0) p8) (by decide))
    have t40 := fI_of hc34 (gs_eq (v := .inl (-1)) (gs_ne (k := 20) (v := .inl 0) p11 (by decide)))
    have t41 := fI_of hc34 p36
    have t42 := fI_of hc34 p37
    refine ur_ldA rfl rfl ?_
    refine ur_push rfl ?_
    refine ur_putM (W := []) rfl hO33 hc34 (by decide) rfl (ms_22 (hO33.msh hc34)) (Or.inl rfl) (fun h44 hO44 hv44 d43 hc45 => ?_)
    have hu44 : un [83, 84, 85, 86, 87, 7919] h33 h44 := hv44.mono (by decide)
    have p46 := (gs_ne (k := 22) (v := .inl 0) (gs_ne (k := 21) (v := .inl (-1)) (gs_eq (v := .inl 0) p8) (by decide)) (by decide))
    have p47 := (gs_ne (k := 22) (v := .inl 0) (gs_eq (v := .inl (-1)) (gs_ne (k := 20) (v := .inl 0) p11 (by decide))) (by decide))
    have t48 := fI_of hc45 (gs_ne (k := 22) (v := .inl 0) p35 (by decide))
    have t49 := fI_of hc45 p46
    have t50 := fI_of hc45 p47
    have t51 := fI_of hc45 (gs_eq (v := .inl 0) p36)
    have t52 := fI_of hc45 (gs_ne (k := 22) (v := .inl 0) p37 (by decide))
    refine ur_ldA rfl rfl ?_
    refine ur_push rfl ?_
    refine ur_putM (W := []) rfl hO44 hc45 (by decide) rfl (ms_23 (hO44.msh hc45) (show 0 ≤ (0 : Int32).toInt ∧ (0 : Int32).toInt ≤ 130 by omega)) (Or.inl rfl) (fun h54 hO54 hv54 d53 hc55 => ?_)
    have hu54 : un [83, 84, 85, 86, 87, 7919] h44 h54 := hv54.mono (by decide)
    have p56 := (gs_ne (k := 23) (v := .inl 0) (gs_ne (k := 22) (v := .inl 0) p35 (by decide)) (by decide))
    have t57 := fI_of hc55 p56
    have t58 := fI_of hc55 (gs_ne (k := 23) (v := .inl 0) p46 (by decide))
    have t59 := fI_of hc55 (gs_ne (k := 23) (v := .inl 0) p47 (by decide))
    have t60 := fI_of hc55 (gs_ne (k := 23) (v := .inl 0) (gs_eq (v := .inl 0) p36) (by decide))
    have t61 := fI_of hc55 (gs_eq (v := .inl 0) (gs_ne (k := 22) (v := .inl 0) p37 (by decide)))
    refine ur_ldA rfl rfl ?_
    refine ur_get rfl hc55 (mf_26 hO54 hc55) ?_
    refine ur_push rfl ?_
    refine ur_push rfl ?_
    obtain ⟨xs63, hc62, hn64, he65⟩ := hO54.int (hO54.fix 85 (by decide) rfl)
    refine ur_astV (W := [85]) (m := 12) rfl hO54 hc62 (by decide) hn64 (by omega) (by show 0 ≤ (0 : Int32).toInt ∧ (0 : Int32).toInt ≤ 61; omega) (Or.inr (Or.inr (wid_fix (by decide) (by decide)))) (fun h68 hO68 hv68 d66 hc67 => ?_)
    have hu68 : un [83, 84, 85, 86, 87, 7919] h54 h68 := hv68.mono (by decide)
    have t69 := fI_of ((d66 _ (by decide)).trans hc55) p56
    have t70 := fI_of ((d66 _ (by decide)).trans hc55) (gs_ne (k := 23) (v := .inl 0) p46 (by decide))
    have t71 := fI_of ((d66 _ (by decide)).trans hc55) (gs_ne (k := 23) (v := .inl 0) p47 (by decide))
    have t72 := fI_of ((d66 _ (by decide)).trans hc55) (gs_ne (k := 23) (v := .inl 0) (gs_eq (v := .inl 0) p36) (by decide))
    have t73 := fI_of ((d66 _ (by decide)).trans hc55) (gs_eq (v := .inl 0) (gs_ne (k := 22) (v := .inl 0) p37 (by decide)))
    have t74 := lm_set hc67 (by omega) (by omega)
    refine ur_ldA rfl rfl ?_
    have t75 := fI_keep (k := 19) hO54 hO68 hv68 rfl (by decide)
    refine ur_inl rfl (rcv_of ((d66 _ (by decide)).trans hc55)) (Nat.le_of_ble_eq_true rfl) (Nat.le_of_ble_eq_true rfl) (sf_X12_line hO68 (by omega) (by omega) (by omega) (TX.c85 ((((hX0.2.2.2.2.cong d24).cong d32).cong d43).cong d53) hO54 d66 hc62 hc67 (by omega)) (TL.z (by omega) (by omega)) (fun w76 h82 hr77 hO82 hv82 hp78 hp79 hp80 hp81 => ?_))
    have hu82 : un [83, 84, 85, 86, 87, 7919] h68 h82 := hv82.mono (by decide)
    subst hr77
    show uRun _ (uCall Mt _) _ 54 (_, [], _, _, _)
    obtain ⟨fs83, hc84⟩ := hO82.mod
    obtain ⟨f85, p86, t87⟩ := mf_19 hO82 hc84
    have t88 := fI_of hc84 p86
    obtain ⟨f89, p90⟩ := mf_20 hO82 hc84
    have t91 := fI_of hc84 p90
    obtain ⟨f92, p93⟩ := mf_21 hO82 hc84
    have t94 := fI_of hc84 p93
    obtain ⟨f95, p96⟩ := mf_22 hO82 hc84
    have t97 := fI_of hc84 p96
    obtain ⟨f98, p99, t100⟩ := mf_23 hO82 hc84
    have t101 := fI_of hc84 p99
    have L102 : ∀ (m103 : Nat)  (h105 : aH) , OK h105 → un [83, 84, 85, 86, 87, 7919] h82 h105 → (fI h105 19 = fI h0 19 ∧ 0 ≤ fI h105 20 ∧ fI h105 20 ≤ fI h105 19 ∧ 1 ≤ lm h105 ∧ lm h105 ≤ 61 ∧ (fI h105 21 < 0 → 2 * lm h105 ≤ fI h105 20 + 1 ∧ fI h105 23 ≤ fI h105 20 ∧ fI h105 22 = 0)) → (TX h105) → (fI h105 21 < 0 → TL h105) → ((121 - fI h105 20).toNat) < m103 → uRun oX12_text (uCall Mt (d + 46)) Q 54 ([some (.inr (.inr (some 69))), some (.inl a1), none, none], [], h105, kc, ks) := by
      intro m103
      induction m103 with
      | zero => intro  h105 hO105 hu105 iv108 px106 px107 mm109; omega
      | succ m103 ih104 =>
        intro  h105 hO105 hu105 iv108 px106 px107 mm109
        refine ur_ldA rfl rfl ?_
        obtain ⟨fs110, hc111⟩ := hO105.mod
        obtain ⟨f112, p113⟩ := mf_21 hO105 hc111
        have t114 := fI_of hc111 p113
        refine ur_get rfl hc111 p113 ?_
        refine ur_if1 rfl (fun c115 => ?_) (fun c115 => ?_)
        · have t116 := le_to c115
          refine ur_ldA rfl rfl ?_
          refine ur_get rfl hc111 p113 ?_
          refine ur_if1 rfl (fun c117 => ?_) (fun c117 => ?_)
          · have t118 := le_to c117
            refine ur_ldA rfl rfl ?_
            refine ur_push rfl ?_
            obtain ⟨f119, p120, t121⟩ := mf_19 hO105 hc111
            have t122 := fI_of hc111 p120
            obtain ⟨f123, p124⟩ := mf_20 hO105 hc111
            have t125 := fI_of hc111 p124
            obtain ⟨f126, p127⟩ := mf_22 hO105 hc111
            have t128 := fI_of hc111 p127
            obtain ⟨f129, p130, t131⟩ := mf_23 hO105 hc111
            have t132 := fI_of hc111 p130
            refine ur_putM (W := [7919]) rfl hO105 hc111 (by decide) rfl (ms_19 (hO105.msh hc111) (show 0 ≤ (0 : Int32).toInt ∧ (0 : Int32).toInt ≤ 120 by omega)) (Or.inr (by decide)) (fun h134 hO134 hv134 d133 hc135 => ?_)
            have hu134 : un [83, 84, 85, 86, 87, 7919] h105 h134 := hv134.mono (by decide)
            have t136 := fI_of hc135 (gs_eq (v := .inl 0) p120)
            have t137 := fI_of hc135 (gs_ne (k := 19) (v := .inl 0) p124 (by decide))
            have t138 := fI_of hc135 (gs_ne (k := 19) (v := .inl 0) p113 (by decide))
            have t139 := fI_of hc135 (gs_ne (k := 19) (v := .inl 0) p127 (by decide))
            have t140 := fI_of hc135 (gs_ne (k := 19) (v := .inl 0) p130 (by decide))
            refine ur_ldA rfl rfl ?_
            refine ur_get rfl hc135 (gs_ne (k := 19) (v := .inl 0) p113 (by decide)) ?_
            refine ur_if1 rfl (fun c141 => ?_) (fun c141 => ?_)
            · have t142 := lt_to c141
              exfalso
              omega
            · have t143 := lt_no c141
              refine ur_push rfl ?_
              refine ur_ldA rfl rfl ?_
              refine ur_get rfl hc135 (gs_ne (k := 19) (v := .inl 0) p113 (by decide)) ?_
              refine ur_binV rfl (fun x144 e145 => ?_)
              have z146 := any_r f112
              have t147 := fI_keep (k := 19) hO68 hO82 hv82 rfl (by decide)
              exact ur_ret rfl rfl (hQ _ _ ⟨_, rfl⟩ hO134 (hu25.tr (hu33.tr (hu44.tr (hu54.tr (hu68.tr (hu82.tr (hu105.tr hu134))))))) ⟨hX0.1.un hO0 hO134 (hu25.tr (hu33.tr (hu44.tr (hu54.tr (hu68.tr (hu82.tr (hu105.tr hu134))))))) (by decide) (by decide), hX0.2.1.un hO0 hO134 (hu25.tr (hu33.tr (hu44.tr (hu54.tr (hu68.tr (hu82.tr (hu105.tr hu134))))))) (by decide) (by decide), hX0.2.2.1.un hO0 hO134 (hu25.tr (hu33.tr (hu44.tr (hu54.tr (hu68.tr (hu82.tr (hu105.tr hu134))))))) (by decide) (by decide), hX0.2.2.2.1.un hO0 hO134 (hu25.tr (hu33.tr (hu44.tr (hu54.tr (hu68.tr (hu82.tr (hu105.tr hu134))))))) (by decide) (by decide) (by decide), (px106.cong d133)⟩)
          · have t148 := le_no c117
            exfalso
            omega
        · have t149 := le_no c115
          refine ur_ldA rfl rfl ?_
          obtain ⟨f150, p151, t152⟩ := mf_19 hO105 hc111
          have t153 := fI_of hc111 p151
          obtain ⟨f154, p155⟩ := mf_20 hO105 hc111
          have t156 := fI_of hc111 p155
          have t157 := fI_keep (k := 19) hO68 hO82 hv82 rfl (by decide)
          refine ur_inl rfl (rcv_of hc111) (Nat.le_of_ble_eq_true rfl) (Nat.le_of_ble_eq_true rfl) (sf_X12_look hO105 (by omega) (fun w158 hr159 => ?_))
          obtain ⟨x160, rfl, t161⟩ := hr159
          show uRun _ (uCall Mt _) _ 65 (_, [(.inl x160)], _, _, _)
          refine ur_push rfl ?_
          refine ur_if2 rfl (fun c162 => ?_) (fun c162 => ?_)
          · have t163 := ne_to c162
            refine ur_ldA rfl rfl ?_
            refine ur_get rfl hc111 p113 ?_
            refine ur_if1 rfl (fun c164 => ?_) (fun c164 => ?_)
            · have t165 := le_to c164
              exfalso
              omega
            · have t166 := le_no c164
              refine ur_ldA rfl rfl ?_
              refine ur_get rfl hc111 p155 ?_
              have t167 : 0 ≤ f154.toInt ∧ f154.toInt ≤ 120 := by omega
              refine ur_ldA rfl rfl ?_
              refine ur_get rfl hc111 p151 ?_
              have z168 := any_r f154
              have z169 := any_r f150
              refine ur_if2 rfl (fun c170 => ?_) (fun c170 => ?_)
              · have t171 := le_to c170
                refine ur_ldA rfl rfl ?_
                refine ur_push rfl ?_
                obtain ⟨f172, p173⟩ := mf_22 hO105 hc111
                have t174 := fI_of hc111 p173
                obtain ⟨f175, p176, t177⟩ := mf_23 hO105 hc111
                have t178 := fI_of hc111 p176
                refine ur_putM (W := [7919]) rfl hO105 hc111 (by decide) rfl (ms_19 (hO105.msh hc111) (show 0 ≤ (0 : Int32).toInt ∧ (0 : Int32).toInt ≤ 120 by omega)) (Or.inr (by decide)) (fun h180 hO180 hv180 d179 hc181 => ?_)
                have hu180 : un [83, 84, 85, 86, 87, 7919] h105 h180 := hv180.mono (by decide)
                have t182 := fI_of hc181 (gs_eq (v := .inl 0) p151)
                have t183 := fI_of hc181 (gs_ne (k := 19) (v := .inl 0) p155 (by decide))
                have t184 := fI_of hc181 (gs_ne (k := 19) (v := .inl 0) p113 (by decide))
                have t185 := fI_of hc181 (gs_ne (k := 19) (v := .inl 0) p173 (by decide))
                have t186 := fI_of hc181 (gs_ne (k := 19) (v := .inl 0) p176 (by decide))
                refine ur_ldA rfl rfl ?_
                refine ur_get rfl hc181 (gs_ne (k := 19) (v := .inl 0) p113 (by decide)) ?_
                refine ur_if1 rfl (fun c187 => ?_) (fun c187 => ?_)
                · have t188 := lt_to c187
                  have t189 := lm_c (d179 85 (by decide))
                  refine ur_ldI rfl rfl ?_
                  refine ur_inl rfl rfl (Nat.le_of_ble_eq_true rfl) (Nat.le_of_ble_eq_true rfl) (sg_placeFor _ (by show 0 ≤ a1.toInt ∧ a1.toInt ≤ 18; omega) (fun w190 hr191 => ?_))
                  obtain ⟨x192, rfl, t193⟩ := hr191
                  show uRun _ (uCall Mt _) _ 133 (_, [(.inl x192)], _, _, _)
                  refine ur_svIk [some (.inr (.inr (some 69))), some (.inl a1), some (.inl x192), none] rfl rfl ?_
                  have t194 : 0 ≤ x192.toInt ∧ x192.toInt ≤ 10 := by omega
                  refine ur_push rfl ?_
                  refine ur_svIk [some (.inr (.inr (some 69))), some (.inl a1), some (.inl x192), some (.inl 0)] rfl rfl ?_
                  have L196 : ∀ (m197 : Nat) (x195 : Int32) (h199 : aH) , OK h199 → un [83, 84, 85, 86, 87, 7919] h180 h199 → ((0 ≤ x195.toInt ∧ x195.toInt ≤ 130) ∧ x195.toInt ≤ fI h199 23 ∧ fI h199 23 = fI h180 23) → (cp (arI h180 83) (arI h199 83) 1430 (130 * iN x192) (iN x195)) → (cp (arI h180 84) (arI h199 84) 1430 (130 * iN x192) (iN x195)) → (arI h199 85 = arI h180 85 ∧ arI h199 86 = arI h180 86 ∧ arI h199 87 = arI h180 87) → ((131 - x195.toInt).toNat) < m197 → uRun oX12_text (uCall Mt (d + 46)) Q 136 ([some (.inr (.inr (some 69))), some (.inl a1), some (.inl x192), some (.inl x195)], [], h199, kc, ks) := by
                    intro m197
                    induction m197 with
                    | zero => intro x195 h199 hO199 hu199 iv203 px200 px201 px202 mm204; omega
                    | succ m197 ih198 =>
                      intro x195 h199 hO199 hu199 iv203 px200 px201 px202 mm204
                      obtain ⟨xs206, hc205, hn207, he208⟩ := hO199.byt (hO199.fix 83 (by decide) rfl)
                      obtain ⟨xs210, hc209, hn211, he212⟩ := hO199.int (hO199.fix 84 (by decide) rfl)
                      refine ur_ldI rfl rfl ?_
                      refine ur_ldA rfl rfl ?_
                      obtain ⟨fs213, hc214⟩ := hO199.mod
                      obtain ⟨f215, p216, t217⟩ := mf_23 hO199 hc214
                      have t218 := fI_of hc214 p216
                      refine ur_get rfl hc214 p216 ?_
                      have z219 := any_r x195
                      have z220 := any_r f215
                      refine ur_if2 rfl (fun c221 => ?_) (fun c221 => ?_)
                      · have t222 := le_to c221
                        refine ur_ldA rfl rfl ?_
                        refine ur_get rfl hc214 (mf_26 hO199 hc214) ?_
                        refine ur_ldI rfl rfl ?_
                        refine ur_ldA rfl rfl ?_
                        refine ur_get rfl hc214 (mf_26 hO199 hc214) ?_
                        refine ur_push rfl ?_
                        obtain ⟨xs224, hc223, hn225, he226⟩ := hO199.int (hO199.fix 85 (by decide) rfl)
                        refine ur_aldV rfl hc223 hn225 (by omega) (fun x227 hx228 => ?_)
                        have t229 : 0 ≤ x227.toInt ∧ x227.toInt ≤ 61 := he226 _ _ hx228
                        have t230 := lm_of hc223 hx228
                        have t231 := lm_e px202.1
                        refine ur_astV (W := [85]) (m := 12) rfl hO199 hc223 (by decide) hn225 (by omega) (by show 0 ≤ x227.toInt ∧ x227.toInt ≤ 61; omega) (Or.inr (Or.inr (wid_fix (by decide) (by decide)))) (fun h234 hO234 hv234 d232 hc233 => ?_)
                        have hu234 : un [83, 84, 85, 86, 87, 7919] h199 h234 := hv234.mono (by decide)
                        obtain ⟨f235, p236, t237⟩ := mf_19 hO234 ((d232 _ (by decide)).trans hc214)
                        have t238 := fI_of ((d232 _ (by decide)).trans hc214) p236
                        obtain ⟨f239, p240⟩ := mf_20 hO234 ((d232 _ (by decide)).trans hc214)
                        have t241 := fI_of ((d232 _ (by decide)).trans hc214) p240
                        obtain ⟨f242, p243⟩ := mf_21 hO234 ((d232 _ (by decide)).trans hc214)
                        have t244 := fI_of ((d232 _ (by decide)).trans hc214) p243
                        obtain ⟨f245, p246⟩ := mf_22 hO234 ((d232 _ (by decide)).trans hc214)
                        have t247 := fI_of ((d232 _ (by decide)).trans hc214) p246
                        have t248 := fI_of ((d232 _ (by decide)).trans hc214) p216
                        have t249 := lnV_set hc233 (iN_lt (by omega))
                        refine ur_push rfl ?_
                        refine ur_svIk [some (.inr (.inr (some 69))), some (.inl a1), some (.inl x192), some (.inl 0)] rfl rfl ?_
                        have L251 : ∀ (m252 : Nat) (x250 : Int32) (h254 : aH) , OK h254 → un [83, 84, 85, 86, 87, 7919] h234 h254 → ((0 ≤ x250.toInt ∧ x250.toInt ≤ 61) ∧ x250.toInt ≤ lnV h254 (iN x192) ∧ lnV h254 (iN x192) = lnV h234 (iN x192)) → (cp (arI h234 86) (arI h254 86) 671 (61 * iN x192) (iN x250)) → (cp (arI h234 87) (arI h254 87) 671 (61 * iN x192) (iN x250)) → (arI h254 83 = arI h234 83 ∧ arI h254 84 = arI h234 84 ∧ arI h254 85 = arI h234 85) → ((62 - x250.toInt).toNat) < m252 → uRun oX12_text (uCall Mt (d + 46)) Q 209 ([some (.inr (.inr (some 69))), some (.inl a1), some (.inl x192), some (.inl x250)], [], h254, kc, ks) := by
                          intro m252
                          induction m252 with
                          | zero => intro x250 h254 hO254 hu254 iv258 px255 px256 px257 mm259; omega
                          | succ m252 ih253 =>
                            intro x250 h254 hO254 hu254 iv258 px255 px256 px257 mm259
                            obtain ⟨xs261, hc260, hn262, he263⟩ := hO254.sho (hO254.fix 86 (by decide) rfl)
                            obtain ⟨xs265, hc264, hn266, he267⟩ := hO254.sho (hO254.fix 87 (by decide) rfl)
                            refine ur_ldI rfl rfl ?_
                            refine ur_ldA rfl rfl ?_
                            obtain ⟨fs268, hc269⟩ := hO254.mod
                            refine ur_get rfl hc269 (mf_26 hO254 hc269) ?_
                            refine ur_ldI rfl rfl ?_
                            obtain ⟨xs271, hc270, hn272, he273⟩ := hO254.int (hO254.fix 85 (by decide) rfl)
                            refine ur_aldV rfl hc270 hn272 (by omega) (fun x274 hx275 => ?_)
                            have t276 : 0 ≤ x274.toInt ∧ x274.toInt ≤ 61 := he273 _ _ hx275
                            have t277 := lnV_of (p := x192) hc270 hx275
                            have z278 := any_r x250
                            have z279 := any_r x274
                            refine ur_if2 rfl (fun c280 => ?_) (fun c280 => ?_)
                            · have t281 := le_to c280
                              refine ur_push rfl ?_
                              obtain ⟨f282, p283, t284⟩ := mf_19 hO254 hc269
                              have t285 := fI_of hc269 p283
                              obtain ⟨f286, p287⟩ := mf_20 hO254 hc269
                              have t288 := fI_of hc269 p287
                              obtain ⟨f289, p290⟩ := mf_21 hO254 hc269
                              have t291 := fI_of hc269 p290
                              obtain ⟨f292, p293⟩ := mf_22 hO254 hc269
                              have t294 := fI_of hc269 p293
                              obtain ⟨f295, p296, t297⟩ := mf_23 hO254 hc269
                              have t298 := fI_of hc269 p296
                              have t299 := fI_keep (k := 19) hO199 hO234 hv234 rfl (by decide)
                              exact ur_ret rfl rfl (hQ _ _ ⟨_, rfl⟩ hO254 (hu25.tr (hu33.tr (hu44.tr (hu54.tr (hu68.tr (hu82.tr (hu105.tr (hu180.tr (hu199.tr (hu234.tr hu254)))))))))) ⟨hX0.1.un hO0 hO254 (hu25.tr (hu33.tr (hu44.tr (hu54.tr (hu68.tr (hu82.tr (hu105.tr (hu180.tr (hu199.tr (hu234.tr hu254)))))))))) (by decide) (by decide), hX0.2.1.un hO0 hO254 (hu25.tr (hu33.tr (hu44.tr (hu54.tr (hu68.tr (hu82.tr (hu105.tr (hu180.tr (hu199.tr (hu234.tr hu254)))))))))) (by decide) (by decide), hX0.2.2.1.un hO0 hO254 (hu25.tr (hu33.tr (hu44.tr (hu54.tr (hu68.tr (hu82.tr (hu105.tr (hu180.tr (hu199.tr (hu234.tr hu254)))))))))) (by decide) (by decide), hX0.2.2.2.1.un hO0 hO254 (hu25.tr (hu33.tr (hu44.tr (hu54.tr (hu68.tr (hu82.tr (hu105.tr (hu180.tr (hu199.tr (hu234.tr hu254)))))))))) (by decide) (by decide) (by decide), (TX_copied (p := iN x192) (n := (lm h180).toNat) (L := (fI h180 23).toNat) (iN_lt (by omega)) hO180 (px106.cong d179) (TL.cong (px107 (by omega)) d179 (by omega)).1 (TL.cong (px107 (by omega)) d179 (by omega)).2 (by rw [px257.1, arI_c (d232 83 (by decide)), iN_eq (i := fI h180 23) (x := x195) (by omega)]; exact px200) (by rw [px257.2.1, arI_c (d232 84 (by decide)), iN_eq (i := fI h180 23) (x := x195) (by omega)]; exact px201) (by rw [← show arI h234 86 = arI h180 86 from (arI_c (d232 86 (by decide))).trans px202.2.1, iN_eq (i := lm h180) (x := x250) (by omega)]; exact px255) (by rw [← show arI h234 87 = arI h180 87 from (arI_c (d232 87 (by decide))).trans px202.2.2, iN_eq (i := lm h180) (x := x250) (by omega)]; exact px256) (fun i hi hn => by rw [px257.2.2, arI_of hc233, List.getElem?_set_ne (iN_ne hn), ← arI_of hc223, px202.1]) (by rw [px257.2.2]; exact (congrArg iN (gd_set (i := iN x192) hc233 rfl (iN_lt (by omega)))).trans (iN_eq (i := lm h180) (by omega)).symm) (by omega) (by omega))⟩)
                            · have t300 := le_no c280
                              refine ur_ldA rfl rfl ?_
                              refine ur_get rfl hc269 (mf_27 hO254 hc269) ?_
                              refine ur_push rfl ?_
                              refine ur_ldI rfl rfl ?_
                              refine ur_binV rfl (fun x301 e302 => ?_)
                              have z303 := any_r x192
                              have t304 := ti_mulR e302 l_61 (by omega) (by omega)
                              refine ur_ldI rfl rfl ?_
                              refine ur_binV rfl (fun x305 e306 => ?_)
                              have z307 := any_r x301
                              have t308 := ti_add e306 (by omega) (by omega)
                              refine ur_ldA rfl rfl ?_
                              refine ur_get rfl hc269 (mf_27 hO254 hc269) ?_
                              refine ur_push rfl ?_
                              refine ur_ldI rfl rfl ?_
                              refine ur_binV rfl (fun x309 e310 => ?_)
                              have t311 := ti_add e310 (by omega) (by omega)
                              refine ur_aldV rfl hc260 hn262 (by omega) (fun x312 hx313 => ?_)
                              have t314 : 0 ≤ x312.toInt ∧ x312.toInt ≤ 130 := he263 _ _ hx313
                              have t317 : (vp_nar .short x312).toInt = x312.toInt := nar_vs (by omega)
                              refine ur_astV (W := [86]) (m := 732) rfl hO254 hc260 (by decide) hn262 (by omega) (by show 0 ≤ (vp_nar .short x312).toInt ∧ (vp_nar .short x312).toInt ≤ 130; rw [nar_vs (by omega)]; omega) (Or.inr (Or.inr (wid_fix (by decide) (by decide)))) (fun h318 hO318 hv318 d315 hc316 => ?_)
                              have hu318 : un [83, 84, 85, 86, 87, 7919] h254 h318 := hv318.mono (by decide)
                              refine ur_ldA rfl rfl ?_
                              refine ur_get rfl ((d315 _ (by decide)).trans hc269) (mf_28 hO318 ((d315 _ (by decide)).trans hc269)) ?_
                              refine ur_push rfl ?_
                              refine ur_ldI rfl rfl ?_
                              refine ur_binV rfl (fun x319 e320 => ?_)
                              have t321 := ti_mulR e320 l_61 (by omega) (by omega)
                              refine ur_ldI rfl rfl ?_
                              refine ur_binV rfl (fun x322 e323 => ?_)
                              have z324 := any_r x319
                              have t325 := ti_add e323 (by omega) (by omega)
                              refine ur_ldA rfl rfl ?_
                              refine ur_get rfl ((d315 _ (by decide)).trans hc269) (mf_28 hO318 ((d315 _ (by decide)).trans hc269)) ?_
                              refine ur_push rfl ?_
                              refine ur_ldI rfl rfl ?_
                              refine ur_binV rfl (fun x326 e327 => ?_)
                              have t328 := ti_add e327 (by omega) (by omega)
                              refine ur_aldV rfl ((d315 _ (by decide)).trans hc264) hn266 (by omega) (fun x329 hx330 => ?_)
                              have t331 : 0 ≤ x329.toInt ∧ x329.toInt ≤ 130 := he267 _ _ hx330
                              have t334 : (vp_nar .short x329).toInt = x329.toInt := nar_vs (by omega)
                              refine ur_astV (W := [87]) (m := 732) rfl hO318 ((d315 _ (by decide)).trans hc264) (by decide) hn266 (by omega) (by show 0 ≤ (vp_nar .short x329).toInt ∧ (vp_nar .short x329).toInt ≤ 130; rw [nar_vs (by omega)]; omega) (Or.inr (Or.inr (wid_fix (by decide) (by decide)))) (fun h335 hO335 hv335 d332 hc333 => ?_)
                              have hu335 : un [83, 84, 85, 86, 87, 7919] h318 h335 := hv335.mono (by decide)
                              have t336 := lnV_c (p := iN x192) (d315 85 (by decide))
                              have t337 := lnV_c (p := iN x192) (d332 85 (by decide))
                              refine ur_incV (fun z => [some (.inr (.inr (some 69))), some (.inl a1), some (.inl x192), some (.inl z)]) rfl rfl (fun _ => rfl) (fun x338 e339 => ?_)
                              have t340 := ti_add e339 (by omega) (by omega)
                              refine ur_go rfl ?_
                              have hc341 := ((d332 _ (by decide)).trans ((d315 _ (by decide)).trans hc269))
                              obtain ⟨f342, p343, t344⟩ := mf_19 hO335 hc341
                              have t345 := fI_of hc341 p343
                              obtain ⟨f346, p347⟩ := mf_20 hO335 hc341
                              have t348 := fI_of hc341 p347
                              obtain ⟨f349, p350⟩ := mf_21 hO335 hc341
                              have t351 := fI_of hc341 p350
                              obtain ⟨f352, p353⟩ := mf_22 hO335 hc341
                              have t354 := fI_of hc341 p353
                              obtain ⟨f355, p356, t357⟩ := mf_23 hO335 hc341
                              have t358 := fI_of hc341 p356
                              have z359 := any_r x338
                              exact ih253 x338 _ hO335 (hu254.tr (hu318.tr hu335)) (by omega) (cpS61 (p := x192) px255 hc260 ((d332 _ (by decide)).trans hc316) hx313 (vps_eq (by omega)) hn262 (by omega) (by omega) (by omega) (by omega) (by omega)) (cpS61 (p := x192) px256 hc264 hc333 hx330 (vps_eq (by omega)) hn266 (by omega) (by omega) (by omega) (by omega) (by omega)) ⟨((arI_c (d332 83 (by decide))).trans ((arI_c (d315 83 (by decide))).trans px257.1)), ((arI_c (d332 84 (by decide))).trans ((arI_c (d315 84 (by decide))).trans px257.2.1)), ((arI_c (d332 85 (by decide))).trans ((arI_c (d315 85 (by decide))).trans px257.2.2))⟩ (by omega)
                        exact L251 _ 0 _ hO234 un.rf (by omega) (by rw [show iN 0 = 0 by decide]; exact cp.z) (by rw [show iN 0 = 0 by decide]; exact cp.z) ⟨rfl, rfl, rfl⟩ (Nat.lt_succ_self _)
                      · have t360 := le_no c221
                        refine ur_ldA rfl rfl ?_
                        refine ur_get rfl hc214 (mf_24 hO199 hc214) ?_
                        refine ur_push rfl ?_
                        refine ur_ldI rfl rfl ?_
                        refine ur_binV rfl (fun x361 e362 => ?_)
                        have z363 := any_r x192
                        have t364 := ti_mulR e362 l_130 (by omega) (by omega)
                        refine ur_ldI rfl rfl ?_
                        refine ur_binV rfl (fun x365 e366 => ?_)
                        have z367 := any_r x361
                        have t368 := ti_add e366 (by omega) (by omega)
                        refine ur_ldA rfl rfl ?_
                        refine ur_get rfl hc214 (mf_24 hO199 hc214) ?_
                        refine ur_push rfl ?_
                        refine ur_ldI rfl rfl ?_
                        refine ur_binV rfl (fun x369 e370 => ?_)
                        have t371 := ti_add e370 (by omega) (by omega)
                        refine ur_aldV rfl hc205 hn207 (by omega) (fun x372 hx373 => ?_)
                        have t374 : 0 ≤ x372.toInt ∧ x372.toInt ≤ 124 := he208 _ _ hx373
                        refine ur_astV (W := [83]) (m := 1560) rfl hO199 hc205 (by decide) hn207 (by omega) (by show 0 ≤ (vp_nar .byte x372).toInt ∧ (vp_nar .byte x372).toInt ≤ 124; rw [nar_vb (by omega)]; omega) (Or.inr (Or.inr (wid_fix (by decide) (by decide)))) (fun h377 hO377 hv377 d375 hc376 => ?_)
                        have hu377 : un [83, 84, 85, 86, 87, 7919] h199 h377 := hv377.mono (by decide)
                        refine ur_ldA rfl rfl ?_
                        refine ur_get rfl ((d375 _ (by decide)).trans hc214) (mf_25 hO377 ((d375 _ (by decide)).trans hc214)) ?_
                        refine ur_push rfl ?_
                        refine ur_ldI rfl rfl ?_
                        refine ur_binV rfl (fun x378 e379 => ?_)
                        have t380 := ti_mulR e379 l_130 (by omega) (by omega)
                        refine ur_ldI rfl rfl ?_
                        refine ur_binV rfl (fun x381 e382 => ?_)
                        have z383 := any_r x378
                        have t384 := ti_add e382 (by omega) (by omega)
                        refine ur_ldA rfl rfl ?_
                        refine ur_get rfl ((d375 _ (by decide)).trans hc214) (mf_25 hO377 ((d375 _ (by decide)).trans hc214)) ?_
                        refine ur_push rfl ?_
                        refine ur_ldI rfl rfl ?_
                        refine ur_binV rfl (fun x385 e386 => ?_)
                        have t387 := ti_add e386 (by omega) (by omega)
                        refine ur_aldV rfl ((d375 _ (by decide)).trans hc209) hn211 (by omega) (fun x388 hx389 => ?_)
                        refine ur_astV (W := [84]) (m := 1560) rfl hO377 ((d375 _ (by decide)).trans hc209) (by decide) hn211 (by omega) (any_r _) (Or.inr (Or.inr (wid_fix (by decide) (by decide)))) (fun h392 hO392 hv392 d390 hc391 => ?_)
                        have hu392 : un [83, 84, 85, 86, 87, 7919] h377 h392 := hv392.mono (by decide)
                        refine ur_incV (fun z => [some (.inr (.inr (some 69))), some (.inl a1), some (.inl x192), some (.inl z)]) rfl rfl (fun _ => rfl) (fun x393 e394 => ?_)
                        have t395 := ti_add e394 (by omega) (by omega)
                        refine ur_go rfl ?_
                        have hc396 := ((d390 _ (by decide)).trans ((d375 _ (by decide)).trans hc214))
                        obtain ⟨f397, p398, t399⟩ := mf_19 hO392 hc396
                        have t400 := fI_of hc396 p398
                        obtain ⟨f401, p402⟩ := mf_20 hO392 hc396
                        have t403 := fI_of hc396 p402
                        obtain ⟨f404, p405⟩ := mf_21 hO392 hc396
                        have t406 := fI_of hc396 p405
                        obtain ⟨f407, p408⟩ := mf_22 hO392 hc396
                        have t409 := fI_of hc396 p408
                        have t410 := fI_of hc396 p216
                        have z411 := any_r x393
                        exact ih198 x393 _ hO392 (hu199.tr (hu377.tr hu392)) (by omega) (cpS130 (p := x192) px200 hc205 ((d390 _ (by decide)).trans hc376) hx373 (vpb_eq (by omega)) hn207 (by omega) (by omega) (by omega) (by omega) (by omega)) (cpS130 (p := x192) px201 hc209 hc391 hx389 rfl hn211 (by omega) (by omega) (by omega) (by omega) (by omega)) ⟨((arI_c (d390 85 (by decide))).trans ((arI_c (d375 85 (by decide))).trans px202.1)), ((arI_c (d390 86 (by decide))).trans ((arI_c (d375 86 (by decide))).trans px202.2.1)), ((arI_c (d390 87 (by decide))).trans ((arI_c (d375 87 (by decide))).trans px202.2.2))⟩ (by omega)
                  exact L196 _ 0 _ hO180 un.rf (by omega) (by rw [show iN 0 = 0 by decide]; exact cp.z) (by rw [show iN 0 = 0 by decide]; exact cp.z) ⟨rfl, rfl, rfl⟩ (Nat.lt_succ_self _)
                · have t412 := lt_no c187
                  exfalso
                  omega
              · have t413 := le_no c170
                refine ur_ldA rfl rfl ?_
                obtain ⟨f414, p415⟩ := mf_22 hO105 hc111
                have t416 := fI_of hc111 p415
                obtain ⟨f417, p418, t419⟩ := mf_23 hO105 hc111
                have t420 := fI_of hc111 p418
                refine ur_inl rfl (rcv_of hc111) (Nat.le_of_ble_eq_true rfl) (Nat.le_of_ble_eq_true rfl) (sf_X12_wrong hO105  (fun w421 h425 hr422 hO425 hv425 hp423 hp424 => ?_))
                have hu425 : un [83, 84, 85, 86, 87, 7919] h105 h425 := hv425.mono (by decide)
                subst hr422
                show uRun _ (uCall Mt _) _ 109 (_, [], _, _, _)
                obtain ⟨fs426, hc427⟩ := hO425.mod
                obtain ⟨f428, p429, t430⟩ := mf_19 hO425 hc427
                have t431 := fI_of hc427 p429
                obtain ⟨f432, p433⟩ := mf_20 hO425 hc427
                have t434 := fI_of hc427 p433
                obtain ⟨f435, p436⟩ := mf_21 hO425 hc427
                have t437 := fI_of hc427 p436
                obtain ⟨f438, p439⟩ := mf_22 hO425 hc427
                have t440 := fI_of hc427 p439
                obtain ⟨f441, p442, t443⟩ := mf_23 hO425 hc427
                have t444 := fI_of hc427 p442
                refine ur_ldA rfl rfl ?_
                refine ur_push rfl ?_
                refine ur_putM (W := [7919]) rfl hO425 hc427 (by decide) rfl (ms_19 (hO425.msh hc427) (show 0 ≤ (0 : Int32).toInt ∧ (0 : Int32).toInt ≤ 120 by omega)) (Or.inr (by decide)) (fun h446 hO446 hv446 d445 hc447 => ?_)
                have hu446 : un [83, 84, 85, 86, 87, 7919] h425 h446 := hv446.mono (by decide)
                have t448 := fI_of hc447 (gs_eq (v := .inl 0) p429)
                have t449 := fI_of hc447 (gs_ne (k := 19) (v := .inl 0) p433 (by decide))
                have t450 := fI_of hc447 (gs_ne (k := 19) (v := .inl 0) p436 (by decide))
                have t451 := fI_of hc447 (gs_ne (k := 19) (v := .inl 0) p439 (by decide))
                have t452 := fI_of hc447 (gs_ne (k := 19) (v := .inl 0) p442 (by decide))
                refine ur_ldA rfl rfl ?_
                refine ur_get rfl hc447 (gs_ne (k := 19) (v := .inl 0) p436 (by decide)) ?_
                refine ur_if1 rfl (fun c453 => ?_) (fun c453 => ?_)
                · have t454 := lt_to c453
                  exfalso
                  omega
                · have t455 := lt_no c453
                  refine ur_push rfl ?_
                  refine ur_ldA rfl rfl ?_
                  refine ur_get rfl hc447 (gs_ne (k := 19) (v := .inl 0) p436 (by decide)) ?_
                  refine ur_binV rfl (fun x456 e457 => ?_)
                  have z458 := any_r f435
                  have t459 := fI_keep (k := 19) hO105 hO425 hv425 rfl (by decide)
                  exact ur_ret rfl rfl (hQ _ _ ⟨_, rfl⟩ hO446 (hu25.tr (hu33.tr (hu44.tr (hu54.tr (hu68.tr (hu82.tr (hu105.tr (hu425.tr hu446)))))))) ⟨hX0.1.un hO0 hO446 (hu25.tr (hu33.tr (hu44.tr (hu54.tr (hu68.tr (hu82.tr (hu105.tr (hu425.tr hu446)))))))) (by decide) (by decide), hX0.2.1.un hO0 hO446 (hu25.tr (hu33.tr (hu44.tr (hu54.tr (hu68.tr (hu82.tr (hu105.tr (hu425.tr hu446)))))))) (by decide) (by decide), hX0.2.2.1.un hO0 hO446 (hu25.tr (hu33.tr (hu44.tr (hu54.tr (hu68.tr (hu82.tr (hu105.tr (hu425.tr hu446)))))))) (by decide) (by decide), hX0.2.2.2.1.un hO0 hO446 (hu25.tr (hu33.tr (hu44.tr (hu54.tr (hu68.tr (hu82.tr (hu105.tr (hu425.tr hu446)))))))) (by decide) (by decide) (by decide), ((TX.un px106 hO105 hv425 (by decide)).cong d445)⟩)
          · have t460 := ne_no c162
            refine ur_ldA rfl rfl ?_
            refine ur_dup rfl rfl ?_
            refine ur_get rfl hc111 p155 ?_
            have t461 : 0 ≤ f154.toInt ∧ f154.toInt ≤ 120 := by omega
            refine ur_push rfl ?_
            refine ur_binV rfl (fun x462 e463 => ?_)
            have z464 := any_r f154
            have t465 := ti_add e463 (by omega) (by omega)
            obtain ⟨f466, p467⟩ := mf_22 hO105 hc111
            have t468 := fI_of hc111 p467
            obtain ⟨f469, p470, t471⟩ := mf_23 hO105 hc111
            have t472 := fI_of hc111 p470
            refine ur_putM (W := []) rfl hO105 hc111 (by decide) rfl (ms_20 (hO105.msh hc111)) (Or.inl rfl) (fun h474 hO474 hv474 d473 hc475 => ?_)
            have hu474 : un [83, 84, 85, 86, 87, 7919] h105 h474 := hv474.mono (by decide)
            have t476 := fI_of hc475 (gs_ne (k := 20) (v := .inl x462) p151 (by decide))
            have t477 := fI_of hc475 (gs_eq (v := .inl x462) p155)
            have t478 := fI_of hc475 (gs_ne (k := 20) (v := .inl x462) p113 (by decide))
            have t479 := fI_of hc475 (gs_ne (k := 20) (v := .inl x462) p467 (by decide))
            have t480 := fI_of hc475 (gs_ne (k := 20) (v := .inl x462) p470 (by decide))
            have t481 := lm_c (d473 85 (by decide))
            refine ur_ldA rfl rfl ?_
            refine ur_inl rfl (rcv_of hc475) (Nat.le_of_ble_eq_true rfl) (Nat.le_of_ble_eq_true rfl) (sf_X12_line hO474 (by omega) (by omega) (by omega) (px106.cong d473) (TL.cong (px107 (by omega)) d473 (by omega)) (fun w482 h488 hr483 hO488 hv488 hp484 hp485 hp486 hp487 => ?_))
            have hu488 : un [83, 84, 85, 86, 87, 7919] h474 h488 := hv488.mono (by decide)
            subst hr483
            show uRun _ (uCall Mt _) _ 84 (_, [], _, _, _)
            obtain ⟨fs489, hc490⟩ := hO488.mod
            obtain ⟨f491, p492, t493⟩ := mf_19 hO488 hc490
            have t494 := fI_of hc490 p492
            obtain ⟨f495, p496⟩ := mf_20 hO488 hc490
            have t497 := fI_of hc490 p496
            obtain ⟨f498, p499⟩ := mf_21 hO488 hc490
            have t500 := fI_of hc490 p499
            obtain ⟨f501, p502⟩ := mf_22 hO488 hc490
            have t503 := fI_of hc490 p502
            obtain ⟨f504, p505, t506⟩ := mf_23 hO488 hc490
            have t507 := fI_of hc490 p505
            refine ur_go rfl ?_
            exact ih104  _ hO488 (hu105.tr (hu474.tr hu488)) (by omega) hp486 hp487 (by omega)
    exact L102 _  _ hO82 un.rf (by omega) hp80 hp81 (Nat.lt_succ_self _)
  · have t508 := wi_noL c22 l_0 l_1
    refine ur_ldI rfl rfl ?_
    refine ur_push rfl ?_
    refine ur_push rfl ?_
    refine ur_callv rfl rfl (Nat.le_of_ble_eq_true rfl) (Nat.le_of_ble_eq_true rfl) rfl (sp_in _ _ _ _ _) ?_
    refine ur_neB rfl (fun c511 => ?_) (fun c511 => ?_)
    · have t512 := wi_toL c511 l_10 l_18
      refine ur_ldA rfl rfl ?_
      refine ur_push rfl ?_
      refine ur_putM (W := []) rfl hO0 hc2 (by decide) rfl (ms_20 (hO0.msh hc2)) (Or.inl rfl) (fun h514 hO514 hv514 d513 hc515 => ?_)
      have hu514 : un [83, 84, 85, 86, 87, 7919] h0 h514 := hv514.mono (by decide)
      have t516 := fI_of hc515 (gs_ne (k := 20) (v := .inl 0) p4 (by decide))
      have t517 := fI_of hc515 (gs_eq (v := .inl 0) p8)
      have t518 := fI_of hc515 (gs_ne (k := 20) (v := .inl 0) p11 (by decide))
      have t519 := fI_of hc515 (gs_ne (k := 20) (v := .inl 0) p14 (by decide))
      have t520 := fI_of hc515 (gs_ne (k := 20) (v := .inl 0) p17 (by decide))
      refine ur_ldA rfl rfl ?_
      refine ur_push rfl ?_
      refine ur_putM (W := []) rfl hO514 hc515 (by decide) rfl (ms_21 (hO514.msh hc515)) (Or.inl rfl) (fun h522 hO522 hv522 d521 hc523 => ?_)
      have hu522 : un [83, 84, 85, 86, 87, 7919] h514 h522 := hv522.mono (by decide)
      have p524 := (gs_ne (k := 21) (v := .inl (-1)) (gs_ne (k := 20) (v := .inl 0) p4 (by decide)) (by decide))
      have p525 := (gs_ne (k := 21) (v := .inl (-1)) (gs_ne (k := 20) (v := .inl 0) p14 (by decide)) (by decide))
      have p526 := (gs_ne (k := 21) (v := .inl (-1)) (gs_ne (k := 20) (v := .inl 0) p17 (by decide)) (by decide))
      have t527 := fI_of hc523 p524
      have t528 := fI_of hc523 (gs_ne (k := 21) (v := .inl (-1)) (gs_eq (v := .inl 0) p8) (by decide))
      have t529 := fI_of hc523 (gs_eq (v := .inl (-1)) (gs_ne (k := 20) (v := .inl 0) p11 (by decide)))
      have t530 := fI_of hc523 p525
      have t531 := fI_of hc523 p526
      refine ur_ldA rfl rfl ?_
      refine ur_push rfl ?_
      refine ur_putM (W := []) rfl hO522 hc523 (by decide) rfl (ms_22 (hO522.msh hc523)) (Or.inl rfl) (fun h533 hO533 hv533 d532 hc534 => ?_)
      have hu533 : un [83, 84, 85, 86, 87, 7919] h522 h533 := hv533.mono (by decide)
      have p535 := (gs_ne (k := 22) (v := .inl 0) (gs_ne (k := 21) (v := .inl (-1)) (gs_eq (v := .inl 0) p8) (by decide)) (by decide))
      have p536 := (gs_ne (k := 22) (v := .inl 0) (gs_eq (v := .inl (-1)) (gs_ne (k := 20) (v := .inl 0) p11 (by decide))) (by decide))
      have t537 := fI_of hc534 (gs_ne (k := 22) (v := .inl 0) p524 (by decide))
      have t538 := fI_of hc534 p535
      have t539 := fI_of hc534 p536
      have t540 := fI_of hc534 (gs_eq (v := .inl 0) p525)
      have t541 := fI_of hc534 (gs_ne (k := 22) (v := .inl 0) p526 (by decide))
      refine ur_ldA rfl rfl ?_
      refine ur_push rfl ?_
      refine ur_putM (W := []) rfl hO533 hc534 (by decide) rfl (ms_23 (hO533.msh hc534) (show 0 ≤ (0 : Int32).toInt ∧ (0 : Int32).toInt ≤ 130 by omega)) (Or.inl rfl) (fun h543 hO543 hv543 d542 hc544 => ?_)
      have hu543 : un [83, 84, 85, 86, 87, 7919] h533 h543 := hv543.mono (by decide)
      have p545 := (gs_ne (k := 23) (v := .inl 0) (gs_ne (k := 22) (v := .inl 0) p524 (by decide)) (by decide))
      have t546 := fI_of hc544 p545
      have t547 := fI_of hc544 (gs_ne (k := 23) (v := .inl 0) p535 (by decide))
      have t548 := fI_of hc544 (gs_ne (k := 23) (v := .inl 0) p536 (by decide))
      have t549 := fI_of hc544 (gs_ne (k := 23) (v := .inl 0) (gs_eq (v := .inl 0) p525) (by decide))
      have t550 := fI_of hc544 (gs_eq (v := .inl 0) (gs_ne (k := 22) (v := .inl 0) p526 (by decide)))
      refine ur_ldA rfl rfl ?_
      refine ur_get rfl hc544 (mf_26 hO543 hc544) ?_
      refine ur_push rfl ?_
      refine ur_push rfl ?_
      obtain ⟨xs552, hc551, hn553, he554⟩ := hO543.int (hO543.fix 85 (by decide) rfl)
      refine ur_astV (W := [85]) (m := 12) rfl hO543 hc551 (by decide) hn553 (by omega) (by show 0 ≤ (0 : Int32).toInt ∧ (0 : Int32).toInt ≤ 61; omega) (Or.inr (Or.inr (wid_fix (by decide) (by decide)))) (fun h557 hO557 hv557 d555 hc556 => ?_)
      have hu557 : un [83, 84, 85, 86, 87, 7919] h543 h557 := hv557.mono (by decide)
      have t558 := fI_of ((d555 _ (by decide)).trans hc544) p545
      have t559 := fI_of ((d555 _ (by decide)).trans hc544) (gs_ne (k := 23) (v := .inl 0) p535 (by decide))
      have t560 := fI_of ((d555 _ (by decide)).trans hc544) (gs_ne (k := 23) (v := .inl 0) p536 (by decide))
      have t561 := fI_of ((d555 _ (by decide)).trans hc544) (gs_ne (k := 23) (v := .inl 0) (gs_eq (v := .inl 0) p525) (by decide))
      have t562 := fI_of ((d555 _ (by decide)).trans hc544) (gs_eq (v := .inl 0) (gs_ne (k := 22) (v := .inl 0) p526 (by decide)))
      have t563 := lm_set hc556 (by omega) (by omega)
      refine ur_ldA rfl rfl ?_
      have t564 := fI_keep (k := 19) hO543 hO557 hv557 rfl (by decide)
      refine ur_inl rfl (rcv_of ((d555 _ (by decide)).trans hc544)) (Nat.le_of_ble_eq_true rfl) (Nat.le_of_ble_eq_true rfl) (sf_X12_line hO557 (by omega) (by omega) (by omega) (TX.c85 ((((hX0.2.2.2.2.cong d513).cong d521).cong d532).cong d542) hO543 d555 hc551 hc556 (by omega)) (TL.z (by omega) (by omega)) (fun w565 h571 hr566 hO571 hv571 hp567 hp568 hp569 hp570 => ?_))
      have hu571 : un [83, 84, 85, 86, 87, 7919] h557 h571 := hv571.mono (by decide)
      subst hr566
      show uRun _ (uCall Mt _) _ 54 (_, [], _, _, _)
      obtain ⟨fs572, hc573⟩ := hO571.mod
      obtain ⟨f574, p575, t576⟩ := mf_19 hO571 hc573
      have t577 := fI_of hc573 p575
      obtain ⟨f578, p579⟩ := mf_20 hO571 hc573
      have t580 := fI_of hc573 p579
      obtain ⟨f581, p582⟩ := mf_21 hO571 hc573
      have t583 := fI_of hc573 p582
      obtain ⟨f584, p585⟩ := mf_22 hO571 hc573
      have t586 := fI_of hc573 p585
      obtain ⟨f587, p588, t589⟩ := mf_23 hO571 hc573
      have t590 := fI_of hc573 p588
      have L591 : ∀ (m592 : Nat)  (h594 : aH) , OK h594 → un [83, 84, 85, 86, 87, 7919] h571 h594 → (fI h594 19 = fI h0 19 ∧ 0 ≤ fI h594 20 ∧ fI h594 20 ≤ fI h594 19 ∧ 1 ≤ lm h594 ∧ lm h594 ≤ 61 ∧ (fI h594 21 < 0 → 2 * lm h594 ≤ fI h594 20 + 1 ∧ fI h594 23 ≤ fI h594 20 ∧ fI h594 22 = 0)) → (TX h594) → (fI h594 21 < 0 → TL h594) → ((121 - fI h594 20).toNat) < m592 → uRun oX12_text (uCall Mt (d + 46)) Q 54 ([some (.inr (.inr (some 69))), some (.inl a1), none, none], [], h594, kc, ks) := by
        intro m592
        induction m592 with
        | zero => intro  h594 hO594 hu594 iv597 px595 px596 mm598; omega
        | succ m592 ih593 =>
          intro  h594 hO594 hu594 iv597 px595 px596 mm598
          refine ur_ldA rfl rfl ?_
          obtain ⟨fs599, hc600⟩ := hO594.mod
          obtain ⟨f601, p602⟩ := mf_21 hO594 hc600
          have t603 := fI_of hc600 p602
          refine ur_get rfl hc600 p602 ?_
          refine ur_if1 rfl (fun c604 => ?_) (fun c604 => ?_)
          · have t605 := le_to c604
            refine ur_ldA rfl rfl ?_
            refine ur_get rfl hc600 p602 ?_
            refine ur_if1 rfl (fun c606 => ?_) (fun c606 => ?_)
            · have t607 := le_to c606
              refine ur_ldA rfl rfl ?_
              refine ur_push rfl ?_
              obtain ⟨f608, p609, t610⟩ := mf_19 hO594 hc600
              have t611 := fI_of hc600 p609
              obtain ⟨f612, p613⟩ := mf_20 hO594 hc600
              have t614 := fI_of hc600 p613
              obtain ⟨f615, p616⟩ := mf_22 hO594 hc600
              have t617 := fI_of hc600 p616
              obtain ⟨f618, p619, t620⟩ := mf_23 hO594 hc600
              have t621 := fI_of hc600 p619
              refine ur_putM (W := [7919]) rfl hO594 hc600 (by decide) rfl (ms_19 (hO594.msh hc600) (show 0 ≤ (0 : Int32).toInt ∧ (0 : Int32).toInt ≤ 120 by omega)) (Or.inr (by decide)) (fun h623 hO623 hv623 d622 hc624 => ?_)
              have hu623 : un [83, 84, 85, 86, 87, 7919] h594 h623 := hv623.mono (by decide)
              have t625 := fI_of hc624 (gs_eq (v := .inl 0) p609)
              have t626 := fI_of hc624 (gs_ne (k := 19) (v := .inl 0) p613 (by decide))
              have t627 := fI_of hc624 (gs_ne (k := 19) (v := .inl 0) p602 (by decide))
              have t628 := fI_of hc624 (gs_ne (k := 19) (v := .inl 0) p616 (by decide))
              have t629 := fI_of hc624 (gs_ne (k := 19) (v := .inl 0) p619 (by decide))
              refine ur_ldA rfl rfl ?_
              refine ur_get rfl hc624 (gs_ne (k := 19) (v := .inl 0) p602 (by decide)) ?_
              refine ur_if1 rfl (fun c630 => ?_) (fun c630 => ?_)
              · have t631 := lt_to c630
                exfalso
                omega
              · have t632 := lt_no c630
                refine ur_push rfl ?_
                refine ur_ldA rfl rfl ?_
                refine ur_get rfl hc624 (gs_ne (k := 19) (v := .inl 0) p602 (by decide)) ?_
                refine ur_binV rfl (fun x633 e634 => ?_)
                have z635 := any_r f601
                have t636 := fI_keep (k := 19) hO557 hO571 hv571 rfl (by decide)
                exact ur_ret rfl rfl (hQ _ _ ⟨_, rfl⟩ hO623 (hu514.tr (hu522.tr (hu533.tr (hu543.tr (hu557.tr (hu571.tr (hu594.tr hu623))))))) ⟨hX0.1.un hO0 hO623 (hu514.tr (hu522.tr (hu533.tr (hu543.tr (hu557.tr (hu571.tr (hu594.tr hu623))))))) (by decide) (by decide), hX0.2.1.un hO0 hO623 (hu514.tr (hu522.tr (hu533.tr (hu543.tr (hu557.tr (hu571.tr (hu594.tr hu623))))))) (by decide) (by decide), hX0.2.2.1.un hO0 hO623 (hu514.tr (hu522.tr (hu533.tr (hu543.tr (hu557.tr (hu571.tr (hu594.tr hu623))))))) (by decide) (by decide), hX0.2.2.2.1.un hO0 hO623 (hu514.tr (hu522.tr (hu533.tr (hu543.tr (hu557.tr (hu571.tr (hu594.tr hu623))))))) (by decide) (by decide) (by decide), (px595.cong d622)⟩)
            · have t637 := le_no c606
              exfalso
              omega
          · have t638 := le_no c604
            refine ur_ldA rfl rfl ?_
            obtain ⟨f639, p640, t641⟩ := mf_19 hO594 hc600
            have t642 := fI_of hc600 p640
            obtain ⟨f643, p644⟩ := mf_20 hO594 hc600
            have t645 := fI_of hc600 p644
            have t646 := fI_keep (k := 19) hO557 hO571 hv571 rfl (by decide)
            refine ur_inl rfl (rcv_of hc600) (Nat.le_of_ble_eq_true rfl) (Nat.le_of_ble_eq_true rfl) (sf_X12_look hO594 (by omega) (fun w647 hr648 => ?_))
            obtain ⟨x649, rfl, t650⟩ := hr648
            show uRun _ (uCall Mt _) _ 65 (_, [(.inl x649)], _, _, _)
            refine ur_push rfl ?_
            refine ur_if2 rfl (fun c651 => ?_) (fun c651 => ?_)
            · have t652 := ne_to c651
              refine ur_ldA rfl rfl ?_
              refine ur_get rfl hc600 p602 ?_
              refine ur_if1 rfl (fun c653 => ?_) (fun c653 => ?_)
              · have t654 := le_to c653
                exfalso
                omega
              · have t655 := le_no c653
                refine ur_ldA rfl rfl ?_
                refine ur_get rfl hc600 p644 ?_
                have t656 : 0 ≤ f643.toInt ∧ f643.toInt ≤ 120 := by omega
                refine ur_ldA rfl rfl ?_
                refine ur_get rfl hc600 p640 ?_
                have z657 := any_r f643
                have z658 := any_r f639
                refine ur_if2 rfl (fun c659 => ?_) (fun c659 => ?_)
                · have t660 := le_to c659
                  refine ur_ldA rfl rfl ?_
                  refine ur_push rfl ?_
                  obtain ⟨f661, p662⟩ := mf_22 hO594 hc600
                  have t663 := fI_of hc600 p662
                  obtain ⟨f664, p665, t666⟩ := mf_23 hO594 hc600
                  have t667 := fI_of hc600 p665
                  refine ur_putM (W := [7919]) rfl hO594 hc600 (by decide) rfl (ms_19 (hO594.msh hc600) (show 0 ≤ (0 : Int32).toInt ∧ (0 : Int32).toInt ≤ 120 by omega)) (Or.inr (by decide)) (fun h669 hO669 hv669 d668 hc670 => ?_)
                  have hu669 : un [83, 84, 85, 86, 87, 7919] h594 h669 := hv669.mono (by decide)
                  have t671 := fI_of hc670 (gs_eq (v := .inl 0) p640)
                  have t672 := fI_of hc670 (gs_ne (k := 19) (v := .inl 0) p644 (by decide))
                  have t673 := fI_of hc670 (gs_ne (k := 19) (v := .inl 0) p602 (by decide))
                  have t674 := fI_of hc670 (gs_ne (k := 19) (v := .inl 0) p662 (by decide))
                  have t675 := fI_of hc670 (gs_ne (k := 19) (v := .inl 0) p665 (by decide))
                  refine ur_ldA rfl rfl ?_
                  refine ur_get rfl hc670 (gs_ne (k := 19) (v := .inl 0) p602 (by decide)) ?_
                  refine ur_if1 rfl (fun c676 => ?_) (fun c676 => ?_)
                  · have t677 := lt_to c676
                    have t678 := lm_c (d668 85 (by decide))
                    refine ur_ldI rfl rfl ?_
                    refine ur_inl rfl rfl (Nat.le_of_ble_eq_true rfl) (Nat.le_of_ble_eq_true rfl) (sg_placeFor _ (by show 0 ≤ a1.toInt ∧ a1.toInt ≤ 18; omega) (fun w679 hr680 => ?_))
                    obtain ⟨x681, rfl, t682⟩ := hr680
                    show uRun _ (uCall Mt _) _ 133 (_, [(.inl x681)], _, _, _)
                    refine ur_svIk [some (.inr (.inr (some 69))), some (.inl a1), some (.inl x681), none] rfl rfl ?_
                    have t683 : 0 ≤ x681.toInt ∧ x681.toInt ≤ 10 := by omega
                    refine ur_push rfl ?_
                    refine ur_svIk [some (.inr (.inr (some 69))), some (.inl a1), some (.inl x681), some (.inl 0)] rfl rfl ?_
                    have L685 : ∀ (m686 : Nat) (x684 : Int32) (h688 : aH) , OK h688 → un [83, 84, 85, 86, 87, 7919] h669 h688 → ((0 ≤ x684.toInt ∧ x684.toInt ≤ 130) ∧ x684.toInt ≤ fI h688 23 ∧ fI h688 23 = fI h669 23) → (cp (arI h669 83) (arI h688 83) 1430 (130 * iN x681) (iN x684)) → (cp (arI h669 84) (arI h688 84) 1430 (130 * iN x681) (iN x684)) → (arI h688 85 = arI h669 85 ∧ arI h688 86 = arI h669 86 ∧ arI h688 87 = arI h669 87) → ((131 - x684.toInt).toNat) < m686 → uRun oX12_text (uCall Mt (d + 46)) Q 136 ([some (.inr (.inr (some 69))), some (.inl a1), some (.inl x681), some (.inl x684)], [], h688, kc, ks) := by
                      intro m686
                      induction m686 with
                      | zero => intro x684 h688 hO688 hu688 iv692 px689 px690 px691 mm693; omega
                      | succ m686 ih687 =>
                        intro x684 h688 hO688 hu688 iv692 px689 px690 px691 mm693
                        obtain ⟨xs695, hc694, hn696, he697⟩ := hO688.byt (hO688.fix 83 (by decide) rfl)
                        obtain ⟨xs699, hc698, hn700, he701⟩ := hO688.int (hO688.fix 84 (by decide) rfl)
                        refine ur_ldI rfl rfl ?_
                        refine ur_ldA rfl rfl ?_
                        obtain ⟨fs702, hc703⟩ := hO688.mod
                        obtain ⟨f704, p705, t706⟩ := mf_23 hO688 hc703
                        have t707 := fI_of hc703 p705
                        refine ur_get rfl hc703 p705 ?_
                        have z708 := any_r x684
                        have z709 := any_r f704
                        refine ur_if2 rfl (fun c710 => ?_) (fun c710 => ?_)
                        · have t711 := le_to c710
                          refine ur_ldA rfl rfl ?_
                          refine ur_get rfl hc703 (mf_26 hO688 hc703) ?_
                          refine ur_ldI rfl rfl ?_
                          refine ur_ldA rfl rfl ?_
                          refine ur_get rfl hc703 (mf_26 hO688 hc703) ?_
                          refine ur_push rfl ?_
                          obtain ⟨xs713, hc712, hn714, he715⟩ := hO688.int (hO688.fix 85 (by decide) rfl)
                          refine ur_aldV rfl hc712 hn714 (by omega) (fun x716 hx717 => ?_)
                          have t718 : 0 ≤ x716.toInt ∧ x716.toInt ≤ 61 := he715 _ _ hx717
                          have t719 := lm_of hc712 hx717
                          have t720 := lm_e px691.1
                          refine ur_astV (W := [85]) (m := 12) rfl hO688 hc712 (by decide) hn714 (by omega) (by show 0 ≤ x716.toInt ∧ x716.toInt ≤ 61; omega) (Or.inr (Or.inr (wid_fix (by decide) (by decide)))) (fun h723 hO723 hv723 d721 hc722 => ?_)
                          have hu723 : un [83, 84, 85, 86, 87, 7919] h688 h723 := hv723.mono (by decide)
                          obtain ⟨f724, p725, t726⟩ := mf_19 hO723 ((d721 _ (by decide)).trans hc703)
                          have t727 := fI_of ((d721 _ (by decide)).trans hc703) p725
                          obtain ⟨f728, p729⟩ := mf_20 hO723 ((d721 _ (by decide)).trans hc703)
                          have t730 := fI_of ((d721 _ (by decide)).trans hc703) p729
                          obtain ⟨f731, p732⟩ := mf_21 hO723 ((d721 _ (by decide)).trans hc703)
                          have t733 := fI_of ((d721 _ (by decide)).trans hc703) p732
                          obtain ⟨f734, p735⟩ := mf_22 hO723 ((d721 _ (by decide)).trans hc703)
                          have t736 := fI_of ((d721 _ (by decide)).trans hc703) p735
                          have t737 := fI_of ((d721 _ (by decide)).trans hc703) p705
                          have t738 := lnV_set hc722 (iN_lt (by omega))
                          refine ur_push rfl ?_
                          refine ur_svIk [some (.inr (.inr (some 69))), some (.inl a1), some (.inl x681), some (.inl 0)] rfl rfl ?_
                          have L740 : ∀ (m741 : Nat) (x739 : Int32) (h743 : aH) , OK h743 → un [83, 84, 85, 86, 87, 7919] h723 h743 → ((0 ≤ x739.toInt ∧ x739.toInt ≤ 61) ∧ x739.toInt ≤ lnV h743 (iN x681) ∧ lnV h743 (iN x681) = lnV h723 (iN x681)) → (cp (arI h723 86) (arI h743 86) 671 (61 * iN x681) (iN x739)) → (cp (arI h723 87) (arI h743 87) 671 (61 * iN x681) (iN x739)) → (arI h743 83 = arI h723 83 ∧ arI h743 84 = arI h723 84 ∧ arI h743 85 = arI h723 85) → ((62 - x739.toInt).toNat) < m741 → uRun oX12_text (uCall Mt (d + 46)) Q 209 ([some (.inr (.inr (some 69))), some (.inl a1), some (.inl x681), some (.inl x739)], [], h743, kc, ks) := by
                            intro m741
                            induction m741 with
                            | zero => intro x739 h743 hO743 hu743 iv747 px744 px745 px746 mm748; omega
                            | succ m741 ih742 =>
                              intro x739 h743 hO743 hu743 iv747 px744 px745 px746 mm748
                              obtain ⟨xs750, hc749, hn751, he752⟩ := hO743.sho (hO743.fix 86 (by decide) rfl)
                              obtain ⟨xs754, hc753, hn755, he756⟩ := hO743.sho (hO743.fix 87 (by decide) rfl)
                              refine ur_ldI rfl rfl ?_
                              refine ur_ldA rfl rfl ?_
                              obtain ⟨fs757, hc758⟩ := hO743.mod
                              refine ur_get rfl hc758 (mf_26 hO743 hc758) ?_
                              refine ur_ldI rfl rfl ?_
                              obtain ⟨xs760, hc759, hn761, he762⟩ := hO743.int (hO743.fix 85 (by decide) rfl)
                              refine ur_aldV rfl hc759 hn761 (by omega) (fun x763 hx764 => ?_)
                              have t765 : 0 ≤ x763.toInt ∧ x763.toInt ≤ 61 := he762 _ _ hx764
                              have t766 := lnV_of (p := x681) hc759 hx764
                              have z767 := any_r x739
                              have z768 := any_r x763
                              refine ur_if2 rfl (fun c769 => ?_) (fun c769 => ?_)
                              · have t770 := le_to c769
                                refine ur_push rfl ?_
                                obtain ⟨f771, p772, t773⟩ := mf_19 hO743 hc758
                                have t774 := fI_of hc758 p772
                                obtain ⟨f775, p776⟩ := mf_20 hO743 hc758
                                have t777 := fI_of hc758 p776
                                obtain ⟨f778, p779⟩ := mf_21 hO743 hc758
                                have t780 := fI_of hc758 p779
                                obtain ⟨f781, p782⟩ := mf_22 hO743 hc758
                                have t783 := fI_of hc758 p782
                                obtain ⟨f784, p785, t786⟩ := mf_23 hO743 hc758
                                have t787 := fI_of hc758 p785
                                have t788 := fI_keep (k := 19) hO688 hO723 hv723 rfl (by decide)
                                exact ur_ret rfl rfl (hQ _ _ ⟨_, rfl⟩ hO743 (hu514.tr (hu522.tr (hu533.tr (hu543.tr (hu557.tr (hu571.tr (hu594.tr (hu669.tr (hu688.tr (hu723.tr hu743)))))))))) ⟨hX0.1.un hO0 hO743 (hu514.tr (hu522.tr (hu533.tr (hu543.tr (hu557.tr (hu571.tr (hu594.tr (hu669.tr (hu688.tr (hu723.tr hu743)))))))))) (by decide) (by decide), hX0.2.1.un hO0 hO743 (hu514.tr (hu522.tr (hu533.tr (hu543.tr (hu557.tr (hu571.tr (hu594.tr (hu669.tr (hu688.tr (hu723.tr hu743)))))))))) (by decide) (by decide), hX0.2.2.1.un hO0 hO743 (hu514.tr (hu522.tr (hu533.tr (hu543.tr (hu557.tr (hu571.tr (hu594.tr (hu669.tr (hu688.tr (hu723.tr hu743)))))))))) (by decide) (by decide), hX0.2.2.2.1.un hO0 hO743 (hu514.tr (hu522.tr (hu533.tr (hu543.tr (hu557.tr (hu571.tr (hu594.tr (hu669.tr (hu688.tr (hu723.tr hu743)))))))))) (by decide) (by decide) (by decide), (TX_copied (p := iN x681) (n := (lm h669).toNat) (L := (fI h669 23).toNat) (iN_lt (by omega)) hO669 (px595.cong d668) (TL.cong (px596 (by omega)) d668 (by omega)).1 (TL.cong (px596 (by omega)) d668 (by omega)).2 (by rw [px746.1, arI_c (d721 83 (by decide)), iN_eq (i := fI h669 23) (x := x684) (by omega)]; exact px689) (by rw [px746.2.1, arI_c (d721 84 (by decide)), iN_eq (i := fI h669 23) (x := x684) (by omega)]; exact px690) (by rw [← show arI h723 86 = arI h669 86 from (arI_c (d721 86 (by decide))).trans px691.2.1, iN_eq (i := lm h669) (x := x739) (by omega)]; exact px744) (by rw [← show arI h723 87 = arI h669 87 from (arI_c (d721 87 (by decide))).trans px691.2.2, iN_eq (i := lm h669) (x := x739) (by omega)]; exact px745) (fun i hi hn => by rw [px746.2.2, arI_of hc722, List.getElem?_set_ne (iN_ne hn), ← arI_of hc712, px691.1]) (by rw [px746.2.2]; exact (congrArg iN (gd_set (i := iN x681) hc722 rfl (iN_lt (by omega)))).trans (iN_eq (i := lm h669) (by omega)).symm) (by omega) (by omega))⟩)
                              · have t789 := le_no c769
                                refine ur_ldA rfl rfl ?_
                                refine ur_get rfl hc758 (mf_27 hO743 hc758) ?_
                                refine ur_push rfl ?_
                                refine ur_ldI rfl rfl ?_
                                refine ur_binV rfl (fun x790 e791 => ?_)
                                have z792 := any_r x681
                                have t793 := ti_mulR e791 l_61 (by omega) (by omega)
                                refine ur_ldI rfl rfl ?_
                                refine ur_binV rfl (fun x794 e795 => ?_)
                                have z796 := any_r x790
                                have t797 := ti_add e795 (by omega) (by omega)
                                refine ur_ldA rfl rfl ?_
                                refine ur_get rfl hc758 (mf_27 hO743 hc758) ?_
                                refine ur_push rfl ?_
                                refine ur_ldI rfl rfl ?_
                                refine ur_binV rfl (fun x798 e799 => ?_)
                                have t800 := ti_add e799 (by omega) (by omega)
                                refine ur_aldV rfl hc749 hn751 (by omega) (fun x801 hx802 => ?_)
                                have t803 : 0 ≤ x801.toInt ∧ x801.toInt ≤ 130 := he752 _ _ hx802
                                have t806 : (vp_nar .short x801).toInt = x801.toInt := nar_vs (by omega)
                                refine ur_astV (W := [86]) (m := 732) rfl hO743 hc749 (by decide) hn751 (by omega) (by show 0 ≤ (vp_nar .short x801).toInt ∧ (vp_nar .short x801).toInt ≤ 130; rw [nar_vs (by omega)]; omega) (Or.inr (Or.inr (wid_fix (by decide) (by decide)))) (fun h807 hO807 hv807 d804 hc805 => ?_)
                                have hu807 : un [83, 84, 85, 86, 87, 7919] h743 h807 := hv807.mono (by decide)
                                refine ur_ldA rfl rfl ?_
                                refine ur_get rfl ((d804 _ (by decide)).trans hc758) (mf_28 hO807 ((d804 _ (by decide)).trans hc758)) ?_
                                refine ur_push rfl ?_
                                refine ur_ldI rfl rfl ?_
                                refine ur_binV rfl (fun x808 e809 => ?_)
                                have t810 := ti_mulR e809 l_61 (by omega) (by omega)
                                refine ur_ldI rfl rfl ?_
                                refine ur_binV rfl (fun x811 e812 => ?_)
                                have z813 := any_r x808
                                have t814 := ti_add e812 (by omega) (by omega)
                                refine ur_ldA rfl rfl ?_
                                refine ur_get rfl ((d804 _ (by decide)).trans hc758) (mf_28 hO807 ((d804 _ (by decide)).trans hc758)) ?_
                                refine ur_push rfl ?_
                                refine ur_ldI rfl rfl ?_
                                refine ur_binV rfl (fun x815 e816 => ?_)
                                have t817 := ti_add e816 (by omega) (by omega)
                                refine ur_aldV rfl ((d804 _ (by decide)).trans hc753) hn755 (by omega) (fun x818 hx819 => ?_)
                                have t820 : 0 ≤ x818.toInt ∧ x818.toInt ≤ 130 := he756 _ _ hx819
                                have t823 : (vp_nar .short x818).toInt = x818.toInt := nar_vs (by omega)
                                refine ur_astV (W := [87]) (m := 732) rfl hO807 ((d804 _ (by decide)).trans hc753) (by decide) hn755 (by omega) (by show 0 ≤ (vp_nar .short x818).toInt ∧ (vp_nar .short x818).toInt ≤ 130; rw [nar_vs (by omega)]; omega) (Or.inr (Or.inr (wid_fix (by decide) (by decide)))) (fun h824 hO824 hv824 d821 hc822 => ?_)
                                have hu824 : un [83, 84, 85, 86, 87, 7919] h807 h824 := hv824.mono (by decide)
                                have t825 := lnV_c (p := iN x681) (d804 85 (by decide))
                                have t826 := lnV_c (p := iN x681) (d821 85 (by decide))
                                refine ur_incV (fun z => [some (.inr (.inr (some 69))), some (.inl a1), some (.inl x681), some (.inl z)]) rfl rfl (fun _ => rfl) (fun x827 e828 => ?_)
                                have t829 := ti_add e828 (by omega) (by omega)
                                refine ur_go rfl ?_
                                have hc830 := ((d821 _ (by decide)).trans ((d804 _ (by decide)).trans hc758))
                                obtain ⟨f831, p832, t833⟩ := mf_19 hO824 hc830
                                have t834 := fI_of hc830 p832
                                obtain ⟨f835, p836⟩ := mf_20 hO824 hc830
                                have t837 := fI_of hc830 p836
                                obtain ⟨f838, p839⟩ := mf_21 hO824 hc830
                                have t840 := fI_of hc830 p839
                                obtain ⟨f841, p842⟩ := mf_22 hO824 hc830
                                have t843 := fI_of hc830 p842
                                obtain ⟨f844, p845, t846⟩ := mf_23 hO824 hc830
                                have t847 := fI_of hc830 p845
                                have z848 := any_r x827
                                exact ih742 x827 _ hO824 (hu743.tr (hu807.tr hu824)) (by omega) (cpS61 (p := x681) px744 hc749 ((d821 _ (by decide)).trans hc805) hx802 (vps_eq (by omega)) hn751 (by omega) (by omega) (by omega) (by omega) (by omega)) (cpS61 (p := x681) px745 hc753 hc822 hx819 (vps_eq (by omega)) hn755 (by omega) (by omega) (by omega) (by omega) (by omega)) ⟨((arI_c (d821 83 (by decide))).trans ((arI_c (d804 83 (by decide))).trans px746.1)), ((arI_c (d821 84 (by decide))).trans ((arI_c (d804 84 (by decide))).trans px746.2.1)), ((arI_c (d821 85 (by decide))).trans ((arI_c (d804 85 (by decide))).trans px746.2.2))⟩ (by omega)
                          exact L740 _ 0 _ hO723 un.rf (by omega) (by rw [show iN 0 = 0 by decide]; exact cp.z) (by rw [show iN 0 = 0 by decide]; exact cp.z) ⟨rfl, rfl, rfl⟩ (Nat.lt_succ_self _)
                        · have t849 := le_no c710
                          refine ur_ldA rfl rfl ?_
                          refine ur_get rfl hc703 (mf_24 hO688 hc703) ?_
                          refine ur_push rfl ?_
                          refine ur_ldI rfl rfl ?_
                          refine ur_binV rfl (fun x850 e851 => ?_)
                          have z852 := any_r x681
                          have t853 := ti_mulR e851 l_130 (by omega) (by omega)
                          refine ur_ldI rfl rfl ?_
                          refine ur_binV rfl (fun x854 e855 => ?_)
                          have z856 := any_r x850
                          have t857 := ti_add e855 (by omega) (by omega)
                          refine ur_ldA rfl rfl ?_
                          refine ur_get rfl hc703 (mf_24 hO688 hc703) ?_
                          refine ur_push rfl ?_
                          refine ur_ldI rfl rfl ?_
                          refine ur_binV rfl (fun x858 e859 => ?_)
                          have t860 := ti_add e859 (by omega) (by omega)
                          refine ur_aldV rfl hc694 hn696 (by omega) (fun x861 hx862 => ?_)
                          have t863 : 0 ≤ x861.toInt ∧ x861.toInt ≤ 124 := he697 _ _ hx862
                          refine ur_astV (W := [83]) (m := 1560) rfl hO688 hc694 (by decide) hn696 (by omega) (by show 0 ≤ (vp_nar .byte x861).toInt ∧ (vp_nar .byte x861).toInt ≤ 124; rw [nar_vb (by omega)]; omega) (Or.inr (Or.inr (wid_fix (by decide) (by decide)))) (fun h866 hO866 hv866 d864 hc865 => ?_)
                          have hu866 : un [83, 84, 85, 86, 87, 7919] h688 h866 := hv866.mono (by decide)
                          refine ur_ldA rfl rfl ?_
                          refine ur_get rfl ((d864 _ (by decide)).trans hc703) (mf_25 hO866 ((d864 _ (by decide)).trans hc703)) ?_
                          refine ur_push rfl ?_
                          refine ur_ldI rfl rfl ?_
                          refine ur_binV rfl (fun x867 e868 => ?_)
                          have t869 := ti_mulR e868 l_130 (by omega) (by omega)
                          refine ur_ldI rfl rfl ?_
                          refine ur_binV rfl (fun x870 e871 => ?_)
                          have z872 := any_r x867
                          have t873 := ti_add e871 (by omega) (by omega)
                          refine ur_ldA rfl rfl ?_
                          refine ur_get rfl ((d864 _ (by decide)).trans hc703) (mf_25 hO866 ((d864 _ (by decide)).trans hc703)) ?_
                          refine ur_push rfl ?_
                          refine ur_ldI rfl rfl ?_
                          refine ur_binV rfl (fun x874 e875 => ?_)
                          have t876 := ti_add e875 (by omega) (by omega)
                          refine ur_aldV rfl ((d864 _ (by decide)).trans hc698) hn700 (by omega) (fun x877 hx878 => ?_)
                          refine ur_astV (W := [84]) (m := 1560) rfl hO866 ((d864 _ (by decide)).trans hc698) (by decide) hn700 (by omega) (any_r _) (Or.inr (Or.inr (wid_fix (by decide) (by decide)))) (fun h881 hO881 hv881 d879 hc880 => ?_)
                          have hu881 : un [83, 84, 85, 86, 87, 7919] h866 h881 := hv881.mono (by decide)
                          refine ur_incV (fun z => [some (.inr (.inr (some 69))), some (.inl a1), some (.inl x681), some (.inl z)]) rfl rfl (fun _ => rfl) (fun x882 e883 => ?_)
                          have t884 := ti_add e883 (by omega) (by omega)
                          refine ur_go rfl ?_
                          have hc885 := ((d879 _ (by decide)).trans ((d864 _ (by decide)).trans hc703))
                          obtain ⟨f886, p887, t888⟩ := mf_19 hO881 hc885
                          have t889 := fI_of hc885 p887
                          obtain ⟨f890, p891⟩ := mf_20 hO881 hc885
                          have t892 := fI_of hc885 p891
                          obtain ⟨f893, p894⟩ := mf_21 hO881 hc885
                          have t895 := fI_of hc885 p894
                          obtain ⟨f896, p897⟩ := mf_22 hO881 hc885
                          have t898 := fI_of hc885 p897
                          have t899 := fI_of hc885 p705
                          have z900 := any_r x882
                          exact ih687 x882 _ hO881 (hu688.tr (hu866.tr hu881)) (by omega) (cpS130 (p := x681) px689 hc694 ((d879 _ (by decide)).trans hc865) hx862 (vpb_eq (by omega)) hn696 (by omega) (by omega) (by omega) (by omega) (by omega)) (cpS130 (p := x681) px690 hc698 hc880 hx878 rfl hn700 (by omega) (by omega) (by omega) (by omega) (by omega)) ⟨((arI_c (d879 85 (by decide))).trans ((arI_c (d864 85 (by decide))).trans px691.1)), ((arI_c (d879 86 (by decide))).trans ((arI_c (d864 86 (by decide))).trans px691.2.1)), ((arI_c (d879 87 (by decide))).trans ((arI_c (d864 87 (by decide))).trans px691.2.2))⟩ (by omega)
                    exact L685 _ 0 _ hO669 un.rf (by omega) (by rw [show iN 0 = 0 by decide]; exact cp.z) (by rw [show iN 0 = 0 by decide]; exact cp.z) ⟨rfl, rfl, rfl⟩ (Nat.lt_succ_self _)
                  · have t901 := lt_no c676
                    exfalso
                    omega
                · have t902 := le_no c659
                  refine ur_ldA rfl rfl ?_
                  obtain ⟨f903, p904⟩ := mf_22 hO594 hc600
                  have t905 := fI_of hc600 p904
                  obtain ⟨f906, p907, t908⟩ := mf_23 hO594 hc600
                  have t909 := fI_of hc600 p907
                  refine ur_inl rfl (rcv_of hc600) (Nat.le_of_ble_eq_true rfl) (Nat.le_of_ble_eq_true rfl) (sf_X12_wrong hO594  (fun w910 h914 hr911 hO914 hv914 hp912 hp913 => ?_))
                  have hu914 : un [83, 84, 85, 86, 87, 7919] h594 h914 := hv914.mono (by decide)
                  subst hr911
                  show uRun _ (uCall Mt _) _ 109 (_, [], _, _, _)
                  obtain ⟨fs915, hc916⟩ := hO914.mod
                  obtain ⟨f917, p918, t919⟩ := mf_19 hO914 hc916
                  have t920 := fI_of hc916 p918
                  obtain ⟨f921, p922⟩ := mf_20 hO914 hc916
                  have t923 := fI_of hc916 p922
                  obtain ⟨f924, p925⟩ := mf_21 hO914 hc916
                  have t926 := fI_of hc916 p925
                  obtain ⟨f927, p928⟩ := mf_22 hO914 hc916
                  have t929 := fI_of hc916 p928
                  obtain ⟨f930, p931, t932⟩ := mf_23 hO914 hc916
                  have t933 := fI_of hc916 p931
                  refine ur_ldA rfl rfl ?_
                  refine ur_push rfl ?_
                  refine ur_putM (W := [7919]) rfl hO914 hc916 (by decide) rfl (ms_19 (hO914.msh hc916) (show 0 ≤ (0 : Int32).toInt ∧ (0 : Int32).toInt ≤ 120 by omega)) (Or.inr (by decide)) (fun h935 hO935 hv935 d934 hc936 => ?_)
                  have hu935 : un [83, 84, 85, 86, 87, 7919] h914 h935 := hv935.mono (by decide)
                  have t937 := fI_of hc936 (gs_eq (v := .inl 0) p918)
                  have t938 := fI_of hc936 (gs_ne (k := 19) (v := .inl 0) p922 (by decide))
                  have t939 := fI_of hc936 (gs_ne (k := 19) (v := .inl 0) p925 (by decide))
                  have t940 := fI_of hc936 (gs_ne (k := 19) (v := .inl 0) p928 (by decide))
                  have t941 := fI_of hc936 (gs_ne (k := 19) (v := .inl 0) p931 (by decide))
                  refine ur_ldA rfl rfl ?_
                  refine ur_get rfl hc936 (gs_ne (k := 19) (v := .inl 0) p925 (by decide)) ?_
                  refine ur_if1 rfl (fun c942 => ?_) (fun c942 => ?_)
                  · have t943 := lt_to c942
                    exfalso
                    omega
                  · have t944 := lt_no c942
                    refine ur_push rfl ?_
                    refine ur_ldA rfl rfl ?_
                    refine ur_get rfl hc936 (gs_ne (k := 19) (v := .inl 0) p925 (by decide)) ?_
                    refine ur_binV rfl (fun x945 e946 => ?_)
                    have z947 := any_r f924
                    have t948 := fI_keep (k := 19) hO594 hO914 hv914 rfl (by decide)
                    exact ur_ret rfl rfl (hQ _ _ ⟨_, rfl⟩ hO935 (hu514.tr (hu522.tr (hu533.tr (hu543.tr (hu557.tr (hu571.tr (hu594.tr (hu914.tr hu935)))))))) ⟨hX0.1.un hO0 hO935 (hu514.tr (hu522.tr (hu533.tr (hu543.tr (hu557.tr (hu571.tr (hu594.tr (hu914.tr hu935)))))))) (by decide) (by decide), hX0.2.1.un hO0 hO935 (hu514.tr (hu522.tr (hu533.tr (hu543.tr (hu557.tr (hu571.tr (hu594.tr (hu914.tr hu935)))))))) (by decide) (by decide), hX0.2.2.1.un hO0 hO935 (hu514.tr (hu522.tr (hu533.tr (hu543.tr (hu557.tr (hu571.tr (hu594.tr (hu914.tr hu935)))))))) (by decide) (by decide), hX0.2.2.2.1.un hO0 hO935 (hu514.tr (hu522.tr (hu533.tr (hu543.tr (hu557.tr (hu571.tr (hu594.tr (hu914.tr hu935)))))))) (by decide) (by decide) (by decide), ((TX.un px595 hO594 hv914 (by decide)).cong d934)⟩)
            · have t949 := ne_no c651
              refine ur_ldA rfl rfl ?_
              refine ur_dup rfl rfl ?_
              refine ur_get rfl hc600 p644 ?_
              have t950 : 0 ≤ f643.toInt ∧ f643.toInt ≤ 120 := by omega
              refine ur_push rfl ?_
              refine ur_binV rfl (fun x951 e952 => ?_)
              have z953 := any_r f643
              have t954 := ti_add e952 (by omega) (by omega)
              obtain ⟨f955, p956⟩ := mf_22 hO594 hc600
              have t957 := fI_of hc600 p956
              obtain ⟨f958, p959, t960⟩ := mf_23 hO594 hc600
              have t961 := fI_of hc600 p959
              refine ur_putM (W := []) rfl hO594 hc600 (by decide) rfl (ms_20 (hO594.msh hc600)) (Or.inl rfl) (fun h963 hO963 hv963 d962 hc964 => ?_)
              have hu963 : un [83, 84, 85, 86, 87, 7919] h594 h963 := hv963.mono (by decide)
              have t965 := fI_of hc964 (gs_ne (k := 20) (v := .inl x951) p640 (by decide))
              have t966 := fI_of hc964 (gs_eq (v := .inl x951) p644)
              have t967 := fI_of hc964 (gs_ne (k := 20) (v := .inl x951) p602 (by decide))
              have t968 := fI_of hc964 (gs_ne (k := 20) (v := .inl x951) p956 (by decide))
              have t969 := fI_of hc964 (gs_ne (k := 20) (v := .inl x951) p959 (by decide))
              have t970 := lm_c (d962 85 (by decide))
              refine ur_ldA rfl rfl ?_
              refine ur_inl rfl (rcv_of hc964) (Nat.le_of_ble_eq_true rfl) (Nat.le_of_ble_eq_true rfl) (sf_X12_line hO963 (by omega) (by omega) (by omega) (px595.cong d962) (TL.cong (px596 (by omega)) d962 (by omega)) (fun w971 h977 hr972 hO977 hv977 hp973 hp974 hp975 hp976 => ?_))
              have hu977 : un [83, 84, 85, 86, 87, 7919] h963 h977 := hv977.mono (by decide)
              subst hr972
              show uRun _ (uCall Mt _) _ 84 (_, [], _, _, _)
              obtain ⟨fs978, hc979⟩ := hO977.mod
              obtain ⟨f980, p981, t982⟩ := mf_19 hO977 hc979
              have t983 := fI_of hc979 p981
              obtain ⟨f984, p985⟩ := mf_20 hO977 hc979
              have t986 := fI_of hc979 p985
              obtain ⟨f987, p988⟩ := mf_21 hO977 hc979
              have t989 := fI_of hc979 p988
              obtain ⟨f990, p991⟩ := mf_22 hO977 hc979
              have t992 := fI_of hc979 p991
              obtain ⟨f993, p994, t995⟩ := mf_23 hO977 hc979
              have t996 := fI_of hc979 p994
              refine ur_go rfl ?_
              exact ih593  _ hO977 (hu594.tr (hu963.tr hu977)) (by omega) hp975 hp976 (by omega)
      exact L591 _  _ hO571 un.rf (by omega) hp569 hp570 (Nat.lt_succ_self _)
    · have t997 := wi_noL c511 l_10 l_18
      refine ur_push rfl ?_
      exact ur_ret rfl rfl (hQ _ _ ⟨_, rfl⟩ hO0 un.rf hX0)
end CU5
