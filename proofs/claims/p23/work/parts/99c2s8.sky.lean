/-! THE SKY of the reference is kept; printed by program -/
section SKY8
set_option maxRecDepth 20000 in
set_option maxHeartbeats 4000000 in
theorem sd_X12_perhaps {d kc ks : Nat} {h0 : aH} {Q : Option aV → aH → Prop} (hO0 : OK h0) (hX0 : SX h0) (a1 : Int32) (a2 : Int32) (a3 : Int32) (pre0 : SKm h0) (hQ : ∀ r h', (∃ x, r = some (.inl x)) → OK h' → un [80, 81] h0 h' → (SKm h') → Q r h') : uCall Mt (d + 8) 253 [(.inr (.inr (some 69))), (.inl a1), (.inl a2), (.inl a3)] h0 kc ks Q := by
  have l_m2000000000 : ((-2000000000) : Int32).toInt = -2000000000 := by decide
  have l_m60 : ((-60) : Int32).toInt = -60 := by decide
  have l_m2 : ((-2) : Int32).toInt = -2 := by decide
  have l_0 : ((0) : Int32).toInt = 0 := by decide
  have l_1 : ((1) : Int32).toInt = 1 := by decide
  have l_20 : ((20) : Int32).toInt = 20 := by decide
  have l_60 : ((60) : Int32).toInt = 60 := by decide
  refine uc_ink [some (.inr (.inr (some 69))), some (.inl a1), some (.inl a2), some (.inl a3), none, none, none, none, none] mt_253 (Nat.le_of_ble_eq_true rfl) rfl ?_
  obtain ⟨fs1, hc2⟩ := hO0.mod
  obtain ⟨f3, p4, t5⟩ := mf_4 hO0 hc2
  have t6 := fI_of hc2 p4
  obtain ⟨f7, p8, t9⟩ := mf_38 hO0 hc2
  have t10 := fI_of hc2 p8
  refine ur_ldA rfl rfl ?_
  refine ur_ldI rfl rfl ?_
  refine ur_inl rfl (rcv_of hc2) (Nat.le_of_ble_eq_true rfl) (Nat.le_of_ble_eq_true rfl) (sd_X12_isWord hO0 _ (fun w11 hr12 => ?_))
  obtain ⟨b13, rfl, t14, t15⟩ := hr12
  show uRun _ (uCall Mt _) _ 5 (_, [(.inl (bi b13))], _, _, _)
  refine ur_eqB rfl (fun c16 => ?_) (fun c16 => ?_)
  · have t17 := t15 c16
    clear t14 t15
    refine ur_push rfl ?_
    exact ur_ret rfl rfl (hQ _ _ ⟨_, rfl⟩ hO0 un.rf pre0)
  · have t18 := t14 c16
    clear t14 t15
    refine ur_ldA rfl rfl ?_
    refine ur_ldI rfl rfl ?_
    refine ur_inl rfl (rcv_of hc2) (Nat.le_of_ble_eq_true rfl) (Nat.le_of_ble_eq_true rfl) (sg_isComet hO0 _ (fun w19 hr20 => ?_))
    obtain ⟨b21, rfl, t22⟩ := hr20
    show uRun _ (uCall Mt _) _ 13 (_, [(.inl (bi b21))], _, _, _)
    refine ur_eqB rfl (fun c23 => ?_) (fun c23 => ?_)
    · clear t22
      refine ur_push rfl ?_
      exact ur_ret rfl rfl (hQ _ _ ⟨_, rfl⟩ hO0 un.rf pre0)
    · have t24 := t22 c23
      clear t22
      refine ur_ldI rfl rfl ?_
      refine ur_callv rfl rfl (Nat.le_of_ble_eq_true rfl) (Nat.le_of_ble_eq_true rfl) rfl (sq_isRet _ _) ?_
      refine ur_neB rfl (fun c27 => ?_) (fun c27 => ?_)
      · have t28 := wi_toL c27 l_m60 l_60
        refine ur_ldA rfl rfl ?_
        refine ur_ldI rfl rfl ?_
        refine ur_ldI rfl rfl ?_
        refine ur_inl rfl (rcv_of hc2) (Nat.le_of_ble_eq_true rfl) (Nat.le_of_ble_eq_true rfl) (sd_X12_passOf hO0 hX0 _ (by show 0 ≤ a2.toInt ∧ a2.toInt ≤ 11; omega) _ (by show -60 ≤ a3.toInt ∧ a3.toInt ≤ 60; omega) pre0 (by omega) (fun w29 h32 hr30 hO32 hv32 hp31 => ?_))
        have hu32 := hv32
        obtain ⟨x33, rfl, f34⟩ := hr30
        show uRun _ (uCall Mt _) _ 32 (_, [(.inl x33)], _, _, _)
        refine ur_svIk [some (.inr (.inr (some 69))), some (.inl a1), some (.inl a2), some (.inl a3), some (.inl x33), none, none, none, none] rfl rfl ?_
        refine ur_ldI rfl rfl ?_
        refine ur_if1 rfl (fun c35 => ?_) (fun c35 => ?_)
        · have t36 := le_to c35
          refine ur_ldA rfl rfl ?_
          refine ur_ldI rfl rfl ?_
          obtain ⟨fs37, hc38⟩ := hO32.mod
          have t39 := fI_keep (k := 4) hO0 hO32 hu32 rfl (by decide)
          have t40 := fI_keep (k := 38) hO0 hO32 hu32 rfl (by decide)
          refine ur_inl rfl (rcv_of hc38) (Nat.le_of_ble_eq_true rfl) (Nat.le_of_ble_eq_true rfl) (sf_X12_wideOf hO32 _ (by show -60 ≤ a3.toInt ∧ a3.toInt ≤ 60; omega) (fun w41 hr42 => ?_))
          obtain ⟨x43, rfl, t44⟩ := hr42
          show uRun _ (uCall Mt _) _ 47 (_, [(.inl x43)], _, _, _)
          refine ur_svIk [some (.inr (.inr (some 69))), some (.inl a1), some (.inl a2), some (.inl a3), some (.inl x33), some (.inl x43), none, none, none] rfl rfl ?_
          refine ur_push rfl ?_
          refine ur_ldI rfl rfl ?_
          refine ur_push rfl ?_
          refine ur_divV rfl (by decide) (fun x45 e46 => ?_)
          have z47 := any_r x43
          have t48 := ti_div e46 l_20 (by decide) (by omega)
          refine ur_binV rfl (fun x49 e50 => ?_)
          have z51 := any_r x45
          have t52 := ti_add e50 (by omega) (by omega)
          refine ur_svIk [some (.inr (.inr (some 69))), some (.inl a1), some (.inl a2), some (.inl a3), some (.inl x33), some (.inl x43), some (.inl x49), none, none] rfl rfl ?_
          refine ur_push rfl ?_
          refine ur_svIk [some (.inr (.inr (some 69))), some (.inl a1), some (.inl a2), some (.inl a3), some (.inl x33), some (.inl x43), some (.inl x49), some (.inl (-2000000000)), none] rfl rfl ?_
          refine ur_ldI rfl rfl ?_
          refine ur_unV rfl (fun x53 e54 => ?_)
          have t55 := ti_neg e54 (by omega)
          refine ur_svIk [some (.inr (.inr (some 69))), some (.inl a1), some (.inl a2), some (.inl a3), some (.inl x33), some (.inl x43), some (.inl x49), some (.inl (-2000000000)), some (.inl x53)] rfl rfl ?_
          obtain ⟨f61, p62, t63⟩ := mf_4 hO32 hc38
          have t64 := fI_of hc38 p62
          obtain ⟨f65, p66, t67⟩ := mf_38 hO32 hc38
          have t68 := fI_of hc38 p66
          have L58 : ∀ (m59 : Nat) (x56 : Int32) (x57 : Int32) (h69 : aH) , OK h69 → un [80, 81] h32 h69 → ((-14400 ≤ x57.toInt ∧ x57.toInt ≤ 15121)) → (SKm h69) → ((20000 - x57.toInt).toNat) < m59 → uRun oX12_perhaps (uCall Mt (d + 7)) Q 67 ([some (.inr (.inr (some 69))), some (.inl a1), some (.inl a2), some (.inl a3), some (.inl x33), some (.inl x43), some (.inl x49), some (.inl x56), some (.inl x57)], [], h69, kc, ks) := by
            intro m59
            induction m59 with
            | zero => intro x56 x57 h69 hO69 hu69 iv71 px70 mm72; omega
            | succ m59 ih60 =>
              intro x56 x57 h69 hO69 hu69 iv71 px70 mm72
              refine ur_ldI rfl rfl ?_
              refine ur_ldI rfl rfl ?_
              have z73 := any_r x57
              refine ur_if2 rfl (fun c74 => ?_) (fun c74 => ?_)
              · have t75 := lt_to c74
                refine ur_ldI rfl rfl ?_
                refine ur_push rfl ?_
                refine ur_if2 rfl (fun c76 => ?_) (fun c76 => ?_)
                · have t77 := ne_to c76
                  refine ur_ldI rfl rfl ?_
                  obtain ⟨fs78, hc79⟩ := hO69.mod
                  obtain ⟨f80, p81, t82⟩ := mf_4 hO69 hc79
                  have t83 := fI_of hc79 p81
                  obtain ⟨f84, p85, t86⟩ := mf_38 hO69 hc79
                  have t87 := fI_of hc79 p85
                  have t88 := fI_keep (k := 4) hO0 hO69 (hu32.tr hu69) rfl (by decide)
                  have t89 := fI_keep (k := 38) hO0 hO69 (hu32.tr hu69) rfl (by decide)
                  exact ur_ret rfl rfl (hQ _ _ ⟨_, rfl⟩ hO69 (hu32.tr hu69) px70)
                · have t90 := ne_no c76
                  refine ur_push rfl ?_
                  refine ur_go rfl ?_
                  obtain ⟨fs91, hc92⟩ := hO69.mod
                  obtain ⟨f93, p94, t95⟩ := mf_4 hO69 hc92
                  have t96 := fI_of hc92 p94
                  obtain ⟨f97, p98, t99⟩ := mf_38 hO69 hc92
                  have t100 := fI_of hc92 p98
                  have t101 := fI_keep (k := 4) hO0 hO69 (hu32.tr hu69) rfl (by decide)
                  have t102 := fI_keep (k := 38) hO0 hO69 (hu32.tr hu69) rfl (by decide)
                  exact ur_ret rfl rfl (hQ _ _ ⟨_, rfl⟩ hO69 (hu32.tr hu69) px70)
              · have t103 := lt_no c74
                refine ur_ldI rfl rfl ?_
                refine ur_push rfl ?_
                refine ur_if2 rfl (fun c104 => ?_) (fun c104 => ?_)
                · have t105 := eq_to c104
                  refine ur_ldA rfl rfl ?_
                  refine ur_ldI rfl rfl ?_
                  refine ur_ldI rfl rfl ?_
                  refine ur_ldI rfl rfl ?_
                  refine ur_ldI rfl rfl ?_
                  refine ur_binV rfl (fun x106 e107 => ?_)
                  have z108 := any_r x33
                  have t109 := ti_add e107 (by omega) (by omega)
                  refine ur_push rfl ?_
                  refine ur_push rfl ?_
                  obtain ⟨fs110, hc111⟩ := hO69.mod
                  obtain ⟨f112, p113, t114⟩ := mf_4 hO69 hc111
                  have t115 := fI_of hc111 p113
                  obtain ⟨f116, p117, t118⟩ := mf_38 hO69 hc111
                  have t119 := fI_of hc111 p117
                  have t120 := fI_keep (k := 4) hO0 hO69 (hu32.tr hu69) rfl (by decide)
                  have t121 := fI_keep (k := 38) hO0 hO69 (hu32.tr hu69) rfl (by decide)
                  refine ur_inl rfl (rcv_of hc111) (Nat.le_of_ble_eq_true rfl) (Nat.le_of_ble_eq_true rfl) (sf_X12_fitDay hO69 (hX0.un hO0 hO69 (hu32.tr hu69) (by decide)) _ (by show 0 ≤ a1.toInt ∧ a1.toInt ≤ 149; omega) _ (by show 0 ≤ a2.toInt ∧ a2.toInt ≤ 11; omega) _ (by show -20000 ≤ x106.toInt ∧ x106.toInt ≤ 1020000; omega) _ (by show -400 ≤ (0 : Int32).toInt ∧ (0 : Int32).toInt ≤ 400; omega) _ (by show 0 ≤ (0 : Int32).toInt ∧ (0 : Int32).toInt ≤ 1020000; omega) (by omega) (by omega) (fun w122 h124 hr123 hO124 hv124 => ?_))
                  have hu124 : un [80, 81] h69 h124 := hv124.mono (by decide)
                  obtain ⟨x125, rfl, t126⟩ := hr123
                  show uRun _ (uCall Mt _) _ 110 (_, [(.inl x125)], _, _, _)
                  refine ur_if1 rfl (fun c127 => ?_) (fun c127 => ?_)
                  · have t128 := lt_to c127
                    refine ur_ldI rfl rfl ?_
                    refine ur_ldI rfl rfl ?_
                    refine ur_binV rfl (fun x129 e130 => ?_)
                    have z131 := any_r x49
                    have t132 := ti_add e130 (by omega) (by omega)
                    refine ur_svIk [some (.inr (.inr (some 69))), some (.inl a1), some (.inl a2), some (.inl a3), some (.inl x33), some (.inl x43), some (.inl x49), some (.inl x56), some (.inl x129)] rfl rfl ?_
                    refine ur_go rfl ?_
                    obtain ⟨fs133, hc134⟩ := hO124.mod
                    obtain ⟨f135, p136, t137⟩ := mf_4 hO124 hc134
                    have t138 := fI_of hc134 p136
                    obtain ⟨f139, p140, t141⟩ := mf_38 hO124 hc134
                    have t142 := fI_of hc134 p140
                    have z143 := any_r x129
                    exact ih60 x56 x129 _ hO124 (hu69.tr hu124) (by omega) (px70.un hO69 hO124 hv124 (by decide)) (by omega)
                  · have t144 := lt_no c127
                    refine ur_ldI rfl rfl ?_
                    refine ur_svIk [some (.inr (.inr (some 69))), some (.inl a1), some (.inl a2), some (.inl a3), some (.inl x33), some (.inl x43), some (.inl x49), some (.inl x57), some (.inl x57)] rfl rfl ?_
                    refine ur_ldI rfl rfl ?_
                    refine ur_ldI rfl rfl ?_
                    refine ur_binV rfl (fun x145 e146 => ?_)
                    have z147 := any_r x49
                    have t148 := ti_add e146 (by omega) (by omega)
                    refine ur_svIk [some (.inr (.inr (some 69))), some (.inl a1), some (.inl a2), some (.inl a3), some (.inl x33), some (.inl x43), some (.inl x49), some (.inl x57), some (.inl x145)] rfl rfl ?_
                    refine ur_go rfl ?_
                    obtain ⟨fs149, hc150⟩ := hO124.mod
                    obtain ⟨f151, p152, t153⟩ := mf_4 hO124 hc150
                    have t154 := fI_of hc150 p152
                    obtain ⟨f155, p156, t157⟩ := mf_38 hO124 hc150
                    have t158 := fI_of hc150 p156
                    have z159 := any_r x145
                    exact ih60 x57 x145 _ hO124 (hu69.tr hu124) (by omega) (px70.un hO69 hO124 hv124 (by decide)) (by omega)
                · have t160 := eq_no c104
                  refine ur_ldI rfl rfl ?_
                  have t161 := fI_keep (k := 4) hO0 hO69 (hu32.tr hu69) rfl (by decide)
                  have t162 := fI_keep (k := 38) hO0 hO69 (hu32.tr hu69) rfl (by decide)
                  refine ur_inl rfl rfl (Nat.le_of_ble_eq_true rfl) (Nat.le_of_ble_eq_true rfl) (sf_X12_sizeOf _ (fun w163 hr164 => ?_))
                  obtain ⟨x165, rfl, t166⟩ := hr164
                  show uRun _ (uCall Mt _) _ 86 (_, [(.inl x165)], _, _, _)
                  refine ur_ldI rfl rfl ?_
                  refine ur_inl rfl rfl (Nat.le_of_ble_eq_true rfl) (Nat.le_of_ble_eq_true rfl) (sf_X12_sizeOf _ (fun w167 hr168 => ?_))
                  obtain ⟨x169, rfl, t170⟩ := hr168
                  show uRun _ (uCall Mt _) _ 91 (_, [(.inl x169), (.inl x165)], _, _, _)
                  have z171 := any_r x165
                  have z172 := any_r x169
                  refine ur_if2 rfl (fun c173 => ?_) (fun c173 => ?_)
                  · have t174 := lt_to c173
                    refine ur_ldA rfl rfl ?_
                    refine ur_ldI rfl rfl ?_
                    refine ur_ldI rfl rfl ?_
                    refine ur_ldI rfl rfl ?_
                    refine ur_ldI rfl rfl ?_
                    refine ur_binV rfl (fun x175 e176 => ?_)
                    have z177 := any_r x33
                    have t178 := ti_add e176 (by omega) (by omega)
                    refine ur_push rfl ?_
                    refine ur_push rfl ?_
                    obtain ⟨fs179, hc180⟩ := hO69.mod
                    obtain ⟨f181, p182, t183⟩ := mf_4 hO69 hc180
                    have t184 := fI_of hc180 p182
                    obtain ⟨f185, p186, t187⟩ := mf_38 hO69 hc180
                    have t188 := fI_of hc180 p186
                    refine ur_inl rfl (rcv_of hc180) (Nat.le_of_ble_eq_true rfl) (Nat.le_of_ble_eq_true rfl) (sf_X12_fitDay hO69 (hX0.un hO0 hO69 (hu32.tr hu69) (by decide)) _ (by show 0 ≤ a1.toInt ∧ a1.toInt ≤ 149; omega) _ (by show 0 ≤ a2.toInt ∧ a2.toInt ≤ 11; omega) _ (by show -20000 ≤ x175.toInt ∧ x175.toInt ≤ 1020000; omega) _ (by show -400 ≤ (0 : Int32).toInt ∧ (0 : Int32).toInt ≤ 400; omega) _ (by show 0 ≤ (0 : Int32).toInt ∧ (0 : Int32).toInt ≤ 1020000; omega) (by omega) (by omega) (fun w189 h191 hr190 hO191 hv191 => ?_))
                    have hu191 : un [80, 81] h69 h191 := hv191.mono (by decide)
                    obtain ⟨x192, rfl, t193⟩ := hr190
                    show uRun _ (uCall Mt _) _ 110 (_, [(.inl x192)], _, _, _)
                    refine ur_if1 rfl (fun c194 => ?_) (fun c194 => ?_)
                    · have t195 := lt_to c194
                      refine ur_ldI rfl rfl ?_
                      refine ur_ldI rfl rfl ?_
                      refine ur_binV rfl (fun x196 e197 => ?_)
                      have z198 := any_r x49
                      have t199 := ti_add e197 (by omega) (by omega)
                      refine ur_svIk [some (.inr (.inr (some 69))), some (.inl a1), some (.inl a2), some (.inl a3), some (.inl x33), some (.inl x43), some (.inl x49), some (.inl x56), some (.inl x196)] rfl rfl ?_
                      refine ur_go rfl ?_
                      obtain ⟨fs200, hc201⟩ := hO191.mod
                      obtain ⟨f202, p203, t204⟩ := mf_4 hO191 hc201
                      have t205 := fI_of hc201 p203
                      obtain ⟨f206, p207, t208⟩ := mf_38 hO191 hc201
                      have t209 := fI_of hc201 p207
                      have z210 := any_r x196
                      exact ih60 x56 x196 _ hO191 (hu69.tr hu191) (by omega) (px70.un hO69 hO191 hv191 (by decide)) (by omega)
                    · have t211 := lt_no c194
                      refine ur_ldI rfl rfl ?_
                      refine ur_svIk [some (.inr (.inr (some 69))), some (.inl a1), some (.inl a2), some (.inl a3), some (.inl x33), some (.inl x43), some (.inl x49), some (.inl x57), some (.inl x57)] rfl rfl ?_
                      refine ur_ldI rfl rfl ?_
                      refine ur_ldI rfl rfl ?_
                      refine ur_binV rfl (fun x212 e213 => ?_)
                      have z214 := any_r x49
                      have t215 := ti_add e213 (by omega) (by omega)
                      refine ur_svIk [some (.inr (.inr (some 69))), some (.inl a1), some (.inl a2), some (.inl a3), some (.inl x33), some (.inl x43), some (.inl x49), some (.inl x57), some (.inl x212)] rfl rfl ?_
                      refine ur_go rfl ?_
                      obtain ⟨fs216, hc217⟩ := hO191.mod
                      obtain ⟨f218, p219, t220⟩ := mf_4 hO191 hc217
                      have t221 := fI_of hc217 p219
                      obtain ⟨f222, p223, t224⟩ := mf_38 hO191 hc217
                      have t225 := fI_of hc217 p223
                      have z226 := any_r x212
                      exact ih60 x57 x212 _ hO191 (hu69.tr hu191) (by omega) (px70.un hO69 hO191 hv191 (by decide)) (by omega)
                  · have t227 := lt_no c173
                    refine ur_go rfl ?_
                    refine ur_ldI rfl rfl ?_
                    refine ur_ldI rfl rfl ?_
                    refine ur_binV rfl (fun x228 e229 => ?_)
                    have z230 := any_r x49
                    have t231 := ti_add e229 (by omega) (by omega)
                    refine ur_svIk [some (.inr (.inr (some 69))), some (.inl a1), some (.inl a2), some (.inl a3), some (.inl x33), some (.inl x43), some (.inl x49), some (.inl x56), some (.inl x228)] rfl rfl ?_
                    refine ur_go rfl ?_
                    obtain ⟨fs232, hc233⟩ := hO69.mod
                    obtain ⟨f234, p235, t236⟩ := mf_4 hO69 hc233
                    have t237 := fI_of hc233 p235
                    obtain ⟨f238, p239, t240⟩ := mf_38 hO69 hc233
                    have t241 := fI_of hc233 p239
                    have z242 := any_r x228
                    exact ih60 x56 x228 _ hO69 hu69 (by omega) px70 (by omega)
          have z243 := any_r x53
          exact L58 _ (-2000000000) x53 _ hO32 un.rf (by omega) hp31 (Nat.lt_succ_self _)
        · have t244 := le_no c35
          refine ur_push rfl ?_
          obtain ⟨fs245, hc246⟩ := hO32.mod
          obtain ⟨f247, p248, t249⟩ := mf_4 hO32 hc246
          have t250 := fI_of hc246 p248
          obtain ⟨f251, p252, t253⟩ := mf_38 hO32 hc246
          have t254 := fI_of hc246 p252
          have t255 := fI_keep (k := 4) hO0 hO32 hu32 rfl (by decide)
          have t256 := fI_keep (k := 38) hO0 hO32 hu32 rfl (by decide)
          exact ur_ret rfl rfl (hQ _ _ ⟨_, rfl⟩ hO32 hu32 hp31)
      · have t257 := wi_noL c27 l_m60 l_60
        refine ur_push rfl ?_
        exact ur_ret rfl rfl (hQ _ _ ⟨_, rfl⟩ hO0 un.rf pre0)

end SKY8
