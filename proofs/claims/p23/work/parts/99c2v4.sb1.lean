/-! JUDGE AND BEST: sb1 -/
section WSB1
set_option maxRecDepth 20000 in
set_option maxHeartbeats 4000000 in
theorem se_X12_findStory {d kc ks : Nat} {h0 : aH} {Q : Option aV → aH → Prop} {ls : List (List (Int × Int) × List (Int × Int))} {l1 : List (List (Int × Int) × List (Int × Int))} {M : Nat → List (List (Int × Int) × List (Int × Int))} (hO0 : OK h0) (hX0 : SX h0) (a1 : Int32) (b1 : 0 ≤ a1.toInt ∧ a1.toInt ≤ 4095) (pre0 : SKm h0) (pre1 : RLn h0 0 ls) (pre2 : ∀ l ∈ ls, lnG l) (pre3 : RXF h0 M) (pre4 : SLm h0) (pre5 : RLn h0 1 l1) (pre6 : ∀ l ∈ l1, lnG l) (pre7 : LDm h0) (pre8 : WRm h0) (hQ : ∀ r h', (r = none) → OK h' → un [80, 81, 105, 106] h0 h' → (SKm h') → (FBm ls l1 h0 h' M a1 (fI h0 38)) → (FMm ls l1 h0 h' M a1 (fI h0 4)) → Q r h') : uCall Mt (d + 9) 262 [(.inr (.inr (some 69))), (.inl a1)] h0 kc ks Q := by
  have l_m60 : ((-60) : Int32).toInt = -60 := by decide
  have l_0 : ((0) : Int32).toInt = 0 := by decide
  have l_1 : ((1) : Int32).toInt = 1 := by decide
  have l_3 : ((3) : Int32).toInt = 3 := by decide
  have l_60 : ((60) : Int32).toInt = 60 := by decide
  refine uc_ink [some (.inr (.inr (some 69))), some (.inl a1), none, none, none] mt_262 (Nat.le_of_ble_eq_true rfl) rfl ?_
  obtain ⟨fs1, hc2⟩ := hO0.mod
  obtain ⟨f3, p4, t5⟩ := mf_4 hO0 hc2
  have t6 := fI_of hc2 p4
  obtain ⟨f7, p8, t9⟩ := mf_38 hO0 hc2
  have t10 := fI_of hc2 p8
  refine ur_push rfl ?_
  refine ur_svIk [some (.inr (.inr (some 69))), some (.inl a1), some (.inl 0), none, none] rfl rfl ?_
  have L13 : ∀ (m14 : Nat) (x11 : Int32) (u12 : Option aV) (h16 : aH) , OK h16 → un [80, 81, 105, 106] h0 h16 → ((0 ≤ x11.toInt ∧ x11.toInt ≤ 150) ∧ x11.toInt ≤ fI h0 38) → (FBm ls l1 h0 h16 M a1 x11.toInt) → (SKm h16) → ((151 - x11.toInt).toNat) < m14 → uRun oX12_findStory (uCall Mt (d + 8)) Q 2 ([some (.inr (.inr (some 69))), some (.inl a1), some (.inl x11), u12, none], [], h16, kc, ks) := by
    intro m14
    induction m14 with
    | zero => intro x11 u12 h16 hO16 hu16 iv19 px17 px18 mm20; omega
    | succ m14 ih15 =>
      intro x11 u12 h16 hO16 hu16 iv19 px17 px18 mm20
      refine ur_ldI rfl rfl ?_
      refine ur_ldA rfl rfl ?_
      obtain ⟨fs21, hc22⟩ := hO16.mod
      obtain ⟨f23, p24, t25⟩ := mf_38 hO16 hc22
      have t26 := fI_of hc22 p24
      have t27 := fI_keep (k := 4) hO0 hO16 hu16 rfl (by decide)
      have t28 := fI_keep (k := 38) hO0 hO16 hu16 rfl (by decide)
      refine ur_get rfl hc22 p24 ?_
      have z29 := any_r x11
      have z30 := any_r f23
      refine ur_if2 rfl (fun c31 => ?_) (fun c31 => ?_)
      · have t32 := le_to c31
        refine ur_push rfl ?_
        refine ur_svIk [some (.inr (.inr (some 69))), some (.inl a1), some (.inl 0), u12, none] rfl rfl ?_
        obtain ⟨f39, p40, t41⟩ := mf_4 hO16 hc22
        have t42 := fI_of hc22 p40
        have L36 : ∀ (m37 : Nat) (x33 : Int32) (u34 : Option aV) (u35 : Option aV) (h43 : aH) , OK h43 → un [80, 81, 105, 106] h16 h43 → ((0 ≤ x33.toInt ∧ x33.toInt ≤ 12) ∧ x33.toInt ≤ fI h0 4) → (FBm ls l1 h0 h43 M a1 (fI h0 38)) → (FMm ls l1 h0 h43 M a1 x33.toInt) → (SKm h43) → ((13 - x33.toInt).toNat) < m37 → uRun oX12_findStory (uCall Mt (d + 8)) Q 87 ([some (.inr (.inr (some 69))), some (.inl a1), some (.inl x33), u34, u35], [], h43, kc, ks) := by
          intro m37
          induction m37 with
          | zero => intro x33 u34 u35 h43 hO43 hu43 iv47 px44 px45 px46 mm48; omega
          | succ m37 ih38 =>
            intro x33 u34 u35 h43 hO43 hu43 iv47 px44 px45 px46 mm48
            refine ur_ldI rfl rfl ?_
            refine ur_ldA rfl rfl ?_
            obtain ⟨fs49, hc50⟩ := hO43.mod
            obtain ⟨f51, p52, t53⟩ := mf_4 hO43 hc50
            have t54 := fI_of hc50 p52
            have t55 := fI_keep (k := 4) hO0 hO43 (hu16.tr hu43) rfl (by decide)
            have t56 := fI_keep (k := 38) hO0 hO43 (hu16.tr hu43) rfl (by decide)
            refine ur_get rfl hc50 p52 ?_
            have z57 := any_r x33
            have z58 := any_r f51
            refine ur_if2 rfl (fun c59 => ?_) (fun c59 => ?_)
            · have t60 := le_to c59
              obtain ⟨f61, p62, t63⟩ := mf_38 hO43 hc50
              have t64 := fI_of hc50 p62
              exact ur_ret0 rfl (hQ _ _ rfl hO43 (hu16.tr hu43) px46 px44 (by have q := px45; rw [show x33.toInt = fI h0 4 by omega] at q; exact q))
            · have t65 := le_no c59
              refine ur_ldA rfl rfl ?_
              refine ur_get rfl hc50 (mf_56 hO43 hc50) ?_
              refine ur_ldI rfl rfl ?_
              refine ur_push rfl ?_
              obtain ⟨xs67, hc66, hn68, he69⟩ := hO43.int (hO43.fix 106 (by decide) rfl)
              refine ur_astV (W := [106]) (m := 12) rfl hO43 hc66 (by decide) hn68 (by omega) (any_r _) (Or.inr (Or.inr (wid_fix (by decide) (by decide)))) (fun h72 hO72 hv72 d70 hc71 => ?_)
              have hu72 : un [80, 81, 105, 106] h43 h72 := hv72.mono (by decide)
              have w73 : wI h43 h72 106 ((arI h43 106).set (x33 : Int32).toInt.toNat 0) := ⟨by rw [arI_of hc71, arI_of hc66], d70⟩
              refine ur_ldI rfl rfl ?_
              refine ur_ldI rfl rfl ?_
              refine ur_binV rfl (fun x74 e75 => ?_)
              have z76 := any_r a1
              refine ur_push rfl ?_
              refine ur_binV rfl (fun x77 e78 => ?_)
              have t79 := and_1 e78
              have t80 := bt_of e75 e78
              refine ur_if1 rfl (fun c81 => ?_) (fun c81 => ?_)
              · have t82 := ne_to c81
                refine ur_push rfl ?_
                refine ur_svIk [some (.inr (.inr (some 69))), some (.inl a1), some (.inl x33), some (.inl (-60)), u35] rfl rfl ?_
                have t88 := fI_of ((d70 _ (by decide)).trans hc50) p52
                obtain ⟨f89, p90, t91⟩ := mf_38 hO72 ((d70 _ (by decide)).trans hc50)
                have t92 := fI_of ((d70 _ (by decide)).trans hc50) p90
                have L85 : ∀ (m86 : Nat) (x83 : Int32) (u84 : Option aV) (h93 : aH) , OK h93 → un [80, 81, 105, 106] h72 h93 → ((-60 ≤ x83.toInt ∧ x83.toInt ≤ 61)) → (FBm ls l1 h0 h93 M a1 (fI h0 38)) → (FMm ls l1 h0 h93 M a1 x33.toInt) → (gI h93 106 x33.toInt = cq (MSm ls l1 h0 M x33.toInt) (-60) x83.toInt) → (SKm h93) → ((62 - x83.toInt).toNat) < m86 → uRun oX12_findStory (uCall Mt (d + 8)) Q 116 ([some (.inr (.inr (some 69))), some (.inl a1), some (.inl x33), some (.inl x83), u84], [], h93, kc, ks) := by
                  intro m86
                  induction m86 with
                  | zero => intro x83 u84 h93 hO93 hu93 iv98 px94 px95 px96 px97 mm99; omega
                  | succ m86 ih87 =>
                    intro x83 u84 h93 hO93 hu93 iv98 px94 px95 px96 px97 mm99
                    refine ur_ldI rfl rfl ?_
                    refine ur_push rfl ?_
                    refine ur_if2 rfl (fun c100 => ?_) (fun c100 => ?_)
                    · have t101 := lt_to c100
                      refine ur_incV (fun z => [some (.inr (.inr (some 69))), some (.inl a1), some (.inl z), some (.inl x83), u84]) rfl rfl (fun _ => rfl) (fun x102 e103 => ?_)
                      have t104 := ti_add e103 (by omega) (by omega)
                      refine ur_go rfl ?_
                      obtain ⟨fs105, hc106⟩ := hO93.mod
                      obtain ⟨f107, p108, t109⟩ := mf_4 hO93 hc106
                      have t110 := fI_of hc106 p108
                      obtain ⟨f111, p112, t113⟩ := mf_38 hO93 hc106
                      have t114 := fI_of hc106 p112
                      have z115 := any_r x102
                      exact ih38 x102 _ _ _ hO93 (hu43.tr (hu72.tr hu93)) (by omega) px94 (FMm.s px95 ⟨(by have q := cq_r (P := MSm ls l1 h0 M x33.toInt) (lo := -60) (m := x83.toInt) (by omega); rw [← px96] at q; omega), fun _ => by have q := px96; rw [show x83.toInt = 61 by omega] at q; exact q⟩ (by omega)) px97 (by omega)
                    · have t116 := lt_no c100
                      refine ur_ldA rfl rfl ?_
                      refine ur_ldI rfl rfl ?_
                      refine ur_ldI rfl rfl ?_
                      obtain ⟨fs117, hc118⟩ := hO93.mod
                      obtain ⟨f119, p120, t121⟩ := mf_4 hO93 hc118
                      have t122 := fI_of hc118 p120
                      have t123 := fI_keep (k := 4) hO0 hO93 (hu16.tr (hu43.tr (hu72.tr hu93))) rfl (by decide)
                      have t124 := fI_keep (k := 38) hO0 hO93 (hu16.tr (hu43.tr (hu72.tr hu93))) rfl (by decide)
                      refine ur_inl rfl (rcv_of hc118) (Nat.le_of_ble_eq_true rfl) (Nat.le_of_ble_eq_true rfl) (sd_X12_passOf hO93 (hX0.un hO0 hO93 (hu16.tr (hu43.tr (hu72.tr hu93))) (by decide)) _ (by show 0 ≤ x33.toInt ∧ x33.toInt ≤ 11; omega) _ (by show -60 ≤ x83.toInt ∧ x83.toInt ≤ 60; omega) px97 (by omega) (fun w125 h128 hr126 hO128 hv128 hp127 => ?_))
                      have hu128 : un [80, 81, 105, 106] h93 h128 := hv128.mono (by decide)
                      obtain ⟨x129, rfl, f130⟩ := hr126
                      show uRun _ (uCall Mt _) _ 128 (_, [(.inl x129)], _, _, _)
                      refine ur_svIk [some (.inr (.inr (some 69))), some (.inl a1), some (.inl x33), some (.inl x83), some (.inl x129)] rfl rfl ?_
                      refine ur_ldI rfl rfl ?_
                      refine ur_if1 rfl (fun c131 => ?_) (fun c131 => ?_)
                      · have t132 := lt_to c131
                        refine ur_incV (fun z => [some (.inr (.inr (some 69))), some (.inl a1), some (.inl x33), some (.inl z), some (.inl x129)]) rfl rfl (fun _ => rfl) (fun x133 e134 => ?_)
                        have z135 := any_r x83
                        have t136 := ti_add e134 (by omega) (by omega)
                        refine ur_go rfl ?_
                        obtain ⟨fs137, hc138⟩ := hO128.mod
                        obtain ⟨f139, p140, t141⟩ := mf_4 hO128 hc138
                        have t142 := fI_of hc138 p140
                        obtain ⟨f143, p144, t145⟩ := mf_38 hO128 hc138
                        have t146 := fI_of hc138 p144
                        have z147 := any_r x133
                        exact ih87 x133 _ _ hO128 (hu93.tr hu128) (by omega) (FBm.e px94 (fun i i0 i1 => gV_f (gI_fk (a := 105) (kd := 0) (n := 150) hO93 hv128 (by decide) rfl (by decide) rfl (by decide) (by decide)) i)) (FMm.e px95 (fun i i0 i1 => congrFun (gI_fk (a := 106) (kd := 0) (n := 12) hO93 hv128 (by decide) rfl (by decide) rfl (by decide) (by decide)) i)) (by rw [congrFun (gI_fk (a := 106) (kd := 0) (n := 12) hO93 hv128 (by decide) rfl (by decide) rfl (by decide) (by decide)) x33.toInt, px96]; exact (cq_n (by omega) (fun ⟨t', r, t0, _⟩ => by have e := (retV_f (by have q := f130.1; rw [gI_keep (a := 73) (kd := 0) (n := 12) hO0 (hu16.tr (hu43.tr (hu72.tr hu93))) x33.toInt (by decide) rfl (by decide) rfl (by decide) (by decide), gI_keep (a := 72) (kd := 0) (n := 12) hO0 (hu16.tr (hu43.tr (hu72.tr hu93))) x33.toInt (by decide) rfl (by decide) rfl (by decide) (by decide), show NMh h93 (gI h0 73 x33.toInt) = NMh h0 (gI h0 73 x33.toInt) from nxM_un hO0 hO93 (hu16.tr (hu43.tr (hu72.tr hu93))) (by decide) (by decide) (by decide) _] at q; exact q) r (by omega)); omega) (by omega)).symm) hp127 (by omega)
                      · have t148 := lt_no c131
                        refine ur_ldA rfl rfl ?_
                        refine ur_ldI rfl rfl ?_
                        refine ur_ldI rfl rfl ?_
                        obtain ⟨fs149, hc150⟩ := hO128.mod
                        obtain ⟨f151, p152, t153⟩ := mf_4 hO128 hc150
                        have t154 := fI_of hc150 p152
                        obtain ⟨f155, p156, t157⟩ := mf_34 hO128 hc150
                        have t158 := fI_of hc150 p156
                        have t159 := fI_keep (k := 4) hO0 hO128 (hu16.tr (hu43.tr (hu72.tr (hu93.tr hu128)))) rfl (by decide)
                        have t160 := fI_keep (k := 38) hO0 hO128 (hu16.tr (hu43.tr (hu72.tr (hu93.tr hu128)))) rfl (by decide)
                        refine ur_inl rfl (rcv_of hc150) (Nat.le_of_ble_eq_true rfl) (Nat.le_of_ble_eq_true rfl) (sd_X12_isWatched hO128 (hX0.un hO0 hO128 (hu16.tr (hu43.tr (hu72.tr (hu93.tr hu128)))) (by decide)) _ (by show 0 ≤ x33.toInt ∧ x33.toInt ≤ 11; omega) _ (by show 0 ≤ x129.toInt ∧ x129.toInt ≤ 999999; omega) hp127 (by omega) (pre1.keep (KN.un hO0 (hu16.tr (hu43.tr (hu72.tr (hu93.tr hu128)))) (by decide) (by decide) (by decide) (by decide) (by decide)) (by decide)) pre2 (pre8.un hO0 hO128 (hu16.tr (hu43.tr (hu72.tr (hu93.tr hu128)))) (by decide)) (fun w161 h163 hr162 hO163 hv163 => ?_))
                        have hu163 : un [80, 81, 105, 106] h128 h163 := hv163.mono (by decide)
                        obtain ⟨b164, rfl, t165, t166⟩ := hr162
                        show uRun _ (uCall Mt _) _ 142 (_, [(.inl (bi b164))], _, _, _)
                        refine ur_eqB rfl (fun c167 => ?_) (fun c167 => ?_)
                        · have t168 := t166 c167
                          clear t165 t166
                          refine ur_incV (fun z => [some (.inr (.inr (some 69))), some (.inl a1), some (.inl x33), some (.inl z), some (.inl x129)]) rfl rfl (fun _ => rfl) (fun x169 e170 => ?_)
                          have z171 := any_r x83
                          have t172 := ti_add e170 (by omega) (by omega)
                          refine ur_go rfl ?_
                          obtain ⟨fs173, hc174⟩ := hO163.mod
                          obtain ⟨f175, p176, t177⟩ := mf_4 hO163 hc174
                          have t178 := fI_of hc174 p176
                          obtain ⟨f179, p180, t181⟩ := mf_38 hO163 hc174
                          have t182 := fI_of hc174 p180
                          have z183 := any_r x169
                          exact ih87 x169 _ _ hO163 (hu93.tr (hu128.tr hu163)) (by omega) (FBm.e px94 (fun i i0 i1 => gV_f ((gI_fk (a := 105) (kd := 0) (n := 150) hO128 hv163 (by decide) rfl (by decide) rfl (by decide) (by decide)).trans (gI_fk (a := 105) (kd := 0) (n := 150) hO93 hv128 (by decide) rfl (by decide) rfl (by decide) (by decide))) i)) (FMm.e px95 (fun i i0 i1 => congrFun ((gI_fk (a := 106) (kd := 0) (n := 12) hO128 hv163 (by decide) rfl (by decide) rfl (by decide) (by decide)).trans (gI_fk (a := 106) (kd := 0) (n := 12) hO93 hv128 (by decide) rfl (by decide) rfl (by decide) (by decide))) i)) (by rw [congrFun ((gI_fk (a := 106) (kd := 0) (n := 12) hO128 hv163 (by decide) rfl (by decide) rfl (by decide) (by decide)).trans (gI_fk (a := 106) (kd := 0) (n := 12) hO93 hv128 (by decide) rfl (by decide) rfl (by decide) (by decide))) x33.toInt, px96]; exact (cq_n (by omega) (fun ⟨t', r, t0, w, _⟩ => by have e := (retV_f (by have q := f130.1; rw [gI_keep (a := 73) (kd := 0) (n := 12) hO0 (hu16.tr (hu43.tr (hu72.tr hu93))) x33.toInt (by decide) rfl (by decide) rfl (by decide) (by decide), gI_keep (a := 72) (kd := 0) (n := 12) hO0 (hu16.tr (hu43.tr (hu72.tr hu93))) x33.toInt (by decide) rfl (by decide) rfl (by decide) (by decide), show NMh h93 (gI h0 73 x33.toInt) = NMh h0 (gI h0 73 x33.toInt) from nxM_un hO0 hO93 (hu16.tr (hu43.tr (hu72.tr hu93))) (by decide) (by decide) (by decide) _] at q; exact q) r (by omega)); rw [e] at w; exact t168 ((SWm.un (ls := ls) (c := x33.toInt) (t := x129.toInt) hO0 hO128 (hu16.tr (hu43.tr (hu72.tr (hu93.tr hu128)))) (by decide)).mpr w)) (by omega)).symm) (hp127.un hO128 hO163 hv163 (by decide)) (by omega)
                        · have t184 := t165 c167
                          clear t165 t166
                          refine ur_ldA rfl rfl ?_
                          refine ur_ldI rfl rfl ?_
                          refine ur_ldI rfl rfl ?_
                          obtain ⟨fs185, hc186⟩ := hO163.mod
                          obtain ⟨f187, p188, t189⟩ := mf_4 hO163 hc186
                          have t190 := fI_of hc186 p188
                          obtain ⟨f191, p192, t193⟩ := mf_38 hO163 hc186
                          have t194 := fI_of hc186 p192
                          have t195 := fI_keep (k := 4) hO0 hO163 (hu16.tr (hu43.tr (hu72.tr (hu93.tr (hu128.tr hu163))))) rfl (by decide)
                          have t196 := fI_keep (k := 38) hO0 hO163 (hu16.tr (hu43.tr (hu72.tr (hu93.tr (hu128.tr hu163))))) rfl (by decide)
                          refine ur_inl rfl (rcv_of hc186) (Nat.le_of_ble_eq_true rfl) (Nat.le_of_ble_eq_true rfl) (sd_X12_isTold hO163 (hX0.un hO0 hO163 (hu16.tr (hu43.tr (hu72.tr (hu93.tr (hu128.tr hu163))))) (by decide)) _ (by show 0 ≤ x33.toInt ∧ x33.toInt ≤ 11; omega) _ (by show 0 ≤ x129.toInt ∧ x129.toInt ≤ 999999; omega) (hp127.un hO128 hO163 hv163 (by decide)) (by omega) (pre1.keep (KN.un hO0 (hu16.tr (hu43.tr (hu72.tr (hu93.tr (hu128.tr hu163))))) (by decide) (by decide) (by decide) (by decide) (by decide)) (by decide)) pre2 (rxf_uw pre3 hO0 (hu16.tr (hu43.tr (hu72.tr (hu93.tr (hu128.tr hu163))))) (by decide)) (pre4.un hO0 hO163 (hu16.tr (hu43.tr (hu72.tr (hu93.tr (hu128.tr hu163))))) (by decide) (by decide)) (pre5.keep (KN.un hO0 (hu16.tr (hu43.tr (hu72.tr (hu93.tr (hu128.tr hu163))))) (by decide) (by decide) (by decide) (by decide) (by decide)) (by decide)) pre6 (pre7.un hO0 hO163 (hu16.tr (hu43.tr (hu72.tr (hu93.tr (hu128.tr hu163))))) (by decide) (by decide)) (fun w197 h200 hr198 hO200 hv200 hp199 => ?_))
                          have hu200 : un [80, 81, 105, 106] h163 h200 := hv200.mono (by decide)
                          obtain ⟨b201, rfl, t202, t203⟩ := hr198
                          show uRun _ (uCall Mt _) _ 152 (_, [(.inl (bi b201))], _, _, _)
                          refine ur_neB rfl (fun c204 => ?_) (fun c204 => ?_)
                          · have t205 := t202 c204
                            clear t202 t203
                            refine ur_incV (fun z => [some (.inr (.inr (some 69))), some (.inl a1), some (.inl x33), some (.inl z), some (.inl x129)]) rfl rfl (fun _ => rfl) (fun x206 e207 => ?_)
                            have z208 := any_r x83
                            have t209 := ti_add e207 (by omega) (by omega)
                            refine ur_go rfl ?_
                            obtain ⟨fs210, hc211⟩ := hO200.mod
                            obtain ⟨f212, p213, t214⟩ := mf_4 hO200 hc211
                            have t215 := fI_of hc211 p213
                            obtain ⟨f216, p217, t218⟩ := mf_38 hO200 hc211
                            have t219 := fI_of hc211 p217
                            have z220 := any_r x206
                            exact ih87 x206 _ _ hO200 (hu93.tr (hu128.tr (hu163.tr hu200))) (by omega) (FBm.e px94 (fun i i0 i1 => gV_f ((gI_fk (a := 105) (kd := 0) (n := 150) hO163 hv200 (by decide) rfl (by decide) rfl (by decide) (by decide)).trans ((gI_fk (a := 105) (kd := 0) (n := 150) hO128 hv163 (by decide) rfl (by decide) rfl (by decide) (by decide)).trans (gI_fk (a := 105) (kd := 0) (n := 150) hO93 hv128 (by decide) rfl (by decide) rfl (by decide) (by decide)))) i)) (FMm.e px95 (fun i i0 i1 => congrFun ((gI_fk (a := 106) (kd := 0) (n := 12) hO163 hv200 (by decide) rfl (by decide) rfl (by decide) (by decide)).trans ((gI_fk (a := 106) (kd := 0) (n := 12) hO128 hv163 (by decide) rfl (by decide) rfl (by decide) (by decide)).trans (gI_fk (a := 106) (kd := 0) (n := 12) hO93 hv128 (by decide) rfl (by decide) rfl (by decide) (by decide)))) i)) (by rw [congrFun ((gI_fk (a := 106) (kd := 0) (n := 12) hO163 hv200 (by decide) rfl (by decide) rfl (by decide) (by decide)).trans ((gI_fk (a := 106) (kd := 0) (n := 12) hO128 hv163 (by decide) rfl (by decide) rfl (by decide) (by decide)).trans (gI_fk (a := 106) (kd := 0) (n := 12) hO93 hv128 (by decide) rfl (by decide) rfl (by decide) (by decide)))) x33.toInt, px96]; exact (cq_n (by omega) (fun ⟨t', r, t0, w, d⟩ => by have e := (retV_f (by have q := f130.1; rw [gI_keep (a := 73) (kd := 0) (n := 12) hO0 (hu16.tr (hu43.tr (hu72.tr hu93))) x33.toInt (by decide) rfl (by decide) rfl (by decide) (by decide), gI_keep (a := 72) (kd := 0) (n := 12) hO0 (hu16.tr (hu43.tr (hu72.tr hu93))) x33.toInt (by decide) rfl (by decide) rfl (by decide) (by decide), show NMh h93 (gI h0 73 x33.toInt) = NMh h0 (gI h0 73 x33.toInt) from nxM_un hO0 hO93 (hu16.tr (hu43.tr (hu72.tr hu93))) (by decide) (by decide) (by decide) _] at q; exact q) r (by omega)); rw [e] at d; exact d ((TDm.un (ls := ls) (l1 := l1) (M := M) (c := x33.toInt) (t := x129.toInt) hO0 (hu16.tr (hu43.tr (hu72.tr (hu93.tr (hu128.tr hu163))))) (by omega) (fun j j0 j1 => rt_c (CEm_of hO0 hX0) (KWm.un hO0 (hu16.tr (hu43.tr (hu72.tr (hu93.tr (hu128.tr hu163))))) (by decide)) j0 j1) (by decide)).mp t205)) (by omega)).symm) hp199 (by omega)
                          · have t221 := t203 c204
                            clear t202 t203
                            refine ur_ldA rfl rfl ?_
                            obtain ⟨fs222, hc223⟩ := hO200.mod
                            refine ur_get rfl hc223 (mf_56 hO200 hc223) ?_
                            refine ur_ldI rfl rfl ?_
                            refine ur_dup2 rfl rfl rfl ?_
                            obtain ⟨xs225, hc224, hn226, he227⟩ := hO200.int (hO200.fix 106 (by decide) rfl)
                            refine ur_aldV rfl hc224 hn226 (by omega) (fun x228 hx229 => ?_)
                            have t230 := gI_of (j := x33) hc224 hx229
                            have tt231 := cq_r (P := MSm ls l1 h0 M x33.toInt) (lo := -60) (m := x83.toInt) (by omega)
                            rw [← px96, ← congrFun ((gI_fk (a := 106) (kd := 0) (n := 12) hO163 hv200 (by decide) rfl (by decide) rfl (by decide) (by decide)).trans ((gI_fk (a := 106) (kd := 0) (n := 12) hO128 hv163 (by decide) rfl (by decide) rfl (by decide) (by decide)).trans (gI_fk (a := 106) (kd := 0) (n := 12) hO93 hv128 (by decide) rfl (by decide) rfl (by decide) (by decide)))) x33.toInt] at tt231
                            have tt232 : 0 ≤ x228.toInt ∧ x228.toInt ≤ 121 := by omega
                            clear tt231
                            refine ur_push rfl ?_
                            refine ur_binV rfl (fun x233 e234 => ?_)
                            have z235 := any_r x228
                            have t236 := ti_add e234 (by omega) (by omega)
                            refine ur_astV (W := [106]) (m := 12) rfl hO200 hc224 (by decide) hn226 (by omega) (any_r _) (Or.inr (Or.inr (wid_fix (by decide) (by decide)))) (fun h239 hO239 hv239 d237 hc238 => ?_)
                            have hu239 : un [80, 81, 105, 106] h200 h239 := hv239.mono (by decide)
                            have w240 : wI h200 h239 106 ((arI h200 106).set (x33 : Int32).toInt.toNat x233) := ⟨by rw [arI_of hc238, arI_of hc224], d237⟩
                            refine ur_incV (fun z => [some (.inr (.inr (some 69))), some (.inl a1), some (.inl x33), some (.inl z), some (.inl x129)]) rfl rfl (fun _ => rfl) (fun x241 e242 => ?_)
                            have z243 := any_r x83
                            have t244 := ti_add e242 (by omega) (by omega)
                            refine ur_go rfl ?_
                            obtain ⟨f245, p246, t247⟩ := mf_4 hO239 ((d237 _ (by decide)).trans hc223)
                            have t248 := fI_of ((d237 _ (by decide)).trans hc223) p246
                            obtain ⟨f249, p250, t251⟩ := mf_38 hO239 ((d237 _ (by decide)).trans hc223)
                            have t252 := fI_of ((d237 _ (by decide)).trans hc223) p250
                            have z253 := any_r x241
                            exact ih87 x241 _ _ hO239 (hu93.tr (hu128.tr (hu163.tr (hu200.tr hu239)))) (by omega) (FBm.e px94 (fun i i0 i1 => gV_f ((gI_f (d237 105 (by decide))).trans ((gI_fk (a := 105) (kd := 0) (n := 150) hO163 hv200 (by decide) rfl (by decide) rfl (by decide) (by decide)).trans ((gI_fk (a := 105) (kd := 0) (n := 150) hO128 hv163 (by decide) rfl (by decide) rfl (by decide) (by decide)).trans (gI_fk (a := 105) (kd := 0) (n := 150) hO93 hv128 (by decide) rfl (by decide) rfl (by decide) (by decide))))) i)) (FMm.e px95 (fun i i0 i1 => (congrFun rfl i).trans ((((sq_w (am_l (a := 106) hO200 (by decide) rfl (by decide)) w240 (by omega)) i i0).2 (by omega)).trans (congrFun ((gI_fk (a := 106) (kd := 0) (n := 12) hO163 hv200 (by decide) rfl (by decide) rfl (by decide) (by decide)).trans ((gI_fk (a := 106) (kd := 0) (n := 12) hO128 hv163 (by decide) rfl (by decide) rfl (by decide) (by decide)).trans (gI_fk (a := 106) (kd := 0) (n := 12) hO93 hv128 (by decide) rfl (by decide) rfl (by decide) (by decide)))) i)))) (by rw [cq_y (lo := -60) (m := x83.toInt) (by omega) ⟨x129.toInt, (by have q := f130.1; rw [gI_keep (a := 73) (kd := 0) (n := 12) hO0 (hu16.tr (hu43.tr (hu72.tr hu93))) x33.toInt (by decide) rfl (by decide) rfl (by decide) (by decide), gI_keep (a := 72) (kd := 0) (n := 12) hO0 (hu16.tr (hu43.tr (hu72.tr hu93))) x33.toInt (by decide) rfl (by decide) rfl (by decide) (by decide), show NMh h93 (gI h0 73 x33.toInt) = NMh h0 (gI h0 73 x33.toInt) from nxM_un hO0 hO93 (hu16.tr (hu43.tr (hu72.tr hu93))) (by decide) (by decide) (by decide) _] at q; exact q), by omega, (SWm.un (ls := ls) (c := x33.toInt) (t := x129.toInt) hO0 hO128 (hu16.tr (hu43.tr (hu72.tr (hu93.tr hu128)))) (by decide)).mp t184, fun d => t221 ((TDm.un (ls := ls) (l1 := l1) (M := M) (c := x33.toInt) (t := x129.toInt) hO0 (hu16.tr (hu43.tr (hu72.tr (hu93.tr (hu128.tr hu163))))) (by omega) (fun j j0 j1 => rt_c (CEm_of hO0 hX0) (KWm.un hO0 (hu16.tr (hu43.tr (hu72.tr (hu93.tr (hu128.tr hu163))))) (by decide)) j0 j1) (by decide)).mpr d)⟩ (by omega), ← px96, ← congrFun ((gI_fk (a := 106) (kd := 0) (n := 12) hO163 hv200 (by decide) rfl (by decide) rfl (by decide) (by decide)).trans ((gI_fk (a := 106) (kd := 0) (n := 12) hO128 hv163 (by decide) rfl (by decide) rfl (by decide) (by decide)).trans (gI_fk (a := 106) (kd := 0) (n := 12) hO93 hv128 (by decide) rfl (by decide) rfl (by decide) (by decide)))) x33.toInt, ((sq_w (am_l (a := 106) hO200 (by decide) rfl (by decide)) w240 (by omega)) x33.toInt (by omega)).1 (by omega)]; omega) (hp199.un hO200 hO239 hv239 (by decide)) (by omega)
                exact L85 _ (-60) (u35) _ hO72 un.rf (by omega) (FBm.e px44 (fun i i0 i1 => gV_f (gI_f (d70 105 (by decide))) i)) (FMm.e px45 (fun i i0 i1 => (congrFun rfl i).trans ((((sq_w (am_l (a := 106) hO43 (by decide) rfl (by decide)) w73 (by omega)) i i0).2 (by omega)).trans (congrFun rfl i)))) (by rw [((sq_w (am_l (a := 106) hO43 (by decide) rfl (by decide)) w73 (by omega)) x33.toInt (by omega)).1 rfl, l_0, l_m60, cq_z (Int.le_refl _)]) (px46.un hO43 hO72 hv72 (by decide)) (Nat.lt_succ_self _)
              · have t254 := ne_no c81
                refine ur_go rfl ?_
                refine ur_incV (fun z => [some (.inr (.inr (some 69))), some (.inl a1), some (.inl z), u34, u35]) rfl rfl (fun _ => rfl) (fun x255 e256 => ?_)
                have t257 := ti_add e256 (by omega) (by omega)
                refine ur_go rfl ?_
                have t258 := fI_of ((d70 _ (by decide)).trans hc50) p52
                obtain ⟨f259, p260, t261⟩ := mf_38 hO72 ((d70 _ (by decide)).trans hc50)
                have t262 := fI_of ((d70 _ (by decide)).trans hc50) p260
                have z263 := any_r x255
                exact ih38 x255 _ _ _ hO72 (hu43.tr hu72) (by omega) (FBm.e px44 (fun i i0 i1 => gV_f (gI_f (d70 105 (by decide))) i)) (FMm.s (FMm.e px45 (fun i i0 i1 => (congrFun rfl i).trans ((((sq_w (am_l (a := 106) hO43 (by decide) rfl (by decide)) w73 (by omega)) i i0).2 (by omega)).trans (congrFun rfl i)))) ⟨(by have q := (show gI h72 106 x33.toInt = 0 by rw [((sq_w (am_l (a := 106) hO43 (by decide) rfl (by decide)) w73 (by omega)) x33.toInt (by omega)).1 rfl, l_0]); omega), fun q => by exfalso; omega⟩ (by omega)) (px46.un hO43 hO72 hv72 (by decide)) (by omega)
        exact L36 _ 0 (u12) (none) _ hO16 un.rf (by omega) (by have q := px17; rw [show x11.toInt = fI h0 38 by omega] at q; exact q) (FMm.z (by omega)) px18 (Nat.lt_succ_self _)
      · have t264 := le_no c31
        refine ur_ldA rfl rfl ?_
        refine ur_get rfl hc22 (mf_55 hO16 hc22) ?_
        refine ur_ldI rfl rfl ?_
        refine ur_push rfl ?_
        obtain ⟨xs266, hc265, hn267, he268⟩ := hO16.int (hO16.fix 105 (by decide) rfl)
        refine ur_astV (W := [105]) (m := 150) rfl hO16 hc265 (by decide) hn267 (by omega) (any_r _) (Or.inr (Or.inr (wid_fix (by decide) (by decide)))) (fun h271 hO271 hv271 d269 hc270 => ?_)
        have hu271 : un [80, 81, 105, 106] h16 h271 := hv271.mono (by decide)
        have w272 : wI h16 h271 105 ((arI h16 105).set (x11 : Int32).toInt.toNat 0) := ⟨by rw [arI_of hc270, arI_of hc265], d269⟩
        refine ur_ldA rfl rfl ?_
        refine ur_get rfl ((d269 _ (by decide)).trans hc22) (mf_39 hO271 ((d269 _ (by decide)).trans hc22)) ?_
        refine ur_ldI rfl rfl ?_
        obtain ⟨xs274, hc273, hn275, he276⟩ := hO271.int (hO271.fix 96 (by decide) rfl)
        refine ur_aldV rfl hc273 hn275 (by omega) (fun x277 hx278 => ?_)
        have t279 := gI_of (j := x11) hc273 hx278
        have t280 := gI_keep (a := 96) (kd := 0) (n := 150) hO0 (hu16.tr hu271) (x11 : Int32).toInt (by decide) rfl (by decide) rfl (by decide) (by decide)
        have t281 : 0 ≤ x277.toInt ∧ x277.toInt ≤ 7 := he276 _ _ hx278
        refine ur_push rfl ?_
        refine ur_if2 rfl (fun c282 => ?_) (fun c282 => ?_)
        · have t283 := ne_to c282
          refine ur_push rfl ?_
          refine ur_svIk [some (.inr (.inr (some 69))), some (.inl a1), some (.inl x11), some (.inl 0), none] rfl rfl ?_
          obtain ⟨f288, p289, t290⟩ := mf_4 hO271 ((d269 _ (by decide)).trans hc22)
          have t291 := fI_of ((d269 _ (by decide)).trans hc22) p289
          have t292 := fI_of ((d269 _ (by decide)).trans hc22) p24
          have L285 : ∀ (m286 : Nat) (x284 : Int32) (h293 : aH) , OK h293 → un [80, 81, 105, 106] h271 h293 → ((0 ≤ x284.toInt ∧ x284.toInt ≤ 12) ∧ x284.toInt ≤ fI h0 4) → (FBw (gV h293 105 x11.toInt) a1 (FCm ls l1 h0 M x11.toInt) x284.toInt) → (FBm ls l1 h0 h293 M a1 x11.toInt) → (SKm h293) → ((13 - x284.toInt).toNat) < m286 → uRun oX12_findStory (uCall Mt (d + 8)) Q 32 ([some (.inr (.inr (some 69))), some (.inl a1), some (.inl x11), some (.inl x284), none], [], h293, kc, ks) := by
            intro m286
            induction m286 with
            | zero => intro x284 h293 hO293 hu293 iv297 px294 px295 px296 mm298; omega
            | succ m286 ih287 =>
              intro x284 h293 hO293 hu293 iv297 px294 px295 px296 mm298
              refine ur_ldI rfl rfl ?_
              refine ur_ldA rfl rfl ?_
              obtain ⟨fs299, hc300⟩ := hO293.mod
              obtain ⟨f301, p302, t303⟩ := mf_4 hO293 hc300
              have t304 := fI_of hc300 p302
              have t305 := fI_keep (k := 4) hO0 hO293 (hu16.tr (hu271.tr hu293)) rfl (by decide)
              have t306 := fI_keep (k := 38) hO0 hO293 (hu16.tr (hu271.tr hu293)) rfl (by decide)
              refine ur_get rfl hc300 p302 ?_
              have z307 := any_r x284
              have z308 := any_r f301
              refine ur_if2 rfl (fun c309 => ?_) (fun c309 => ?_)
              · have t310 := le_to c309
                refine ur_incV (fun z => [some (.inr (.inr (some 69))), some (.inl a1), some (.inl z), some (.inl x284), none]) rfl rfl (fun _ => rfl) (fun x311 e312 => ?_)
                have t313 := ti_add e312 (by omega) (by omega)
                refine ur_go rfl ?_
                obtain ⟨f314, p315, t316⟩ := mf_38 hO293 hc300
                have t317 := fI_of hc300 p315
                have z318 := any_r x311
                exact ih15 x311 _ _ hO293 (hu16.tr (hu271.tr hu293)) (by omega) (FBm.s px295 (fun _ => by have q := px294; rw [show x284.toInt = fI h0 4 by omega] at q; exact q) (by omega)) px296 (by omega)
              · have t319 := le_no c309
                refine ur_ldI rfl rfl ?_
                refine ur_ldI rfl rfl ?_
                refine ur_binV rfl (fun x320 e321 => ?_)
                have z322 := any_r a1
                refine ur_push rfl ?_
                refine ur_binV rfl (fun x323 e324 => ?_)
                have t325 := and_1 e324
                have t326 := bt_of e321 e324
                refine ur_push rfl ?_
                refine ur_if2 rfl (fun c327 => ?_) (fun c327 => ?_)
                · have t328 := ne_to c327
                  refine ur_incV (fun z => [some (.inr (.inr (some 69))), some (.inl a1), some (.inl x11), some (.inl z), none]) rfl rfl (fun _ => rfl) (fun x329 e330 => ?_)
                  have t331 := ti_add e330 (by omega) (by omega)
                  refine ur_go rfl ?_
                  obtain ⟨f332, p333, t334⟩ := mf_38 hO293 hc300
                  have t335 := fI_of hc300 p333
                  have z336 := any_r x329
                  exact ih287 x329 _ hO293 hu293 (by omega) (FBw.n px294 (fun q => by have k := q.1; omega) (by omega)) (FBm.e px295 (fun i i0 i1 => gV_f rfl i)) px296 (by omega)
                · have t337 := ne_no c327
                  refine ur_ldA rfl rfl ?_
                  refine ur_ldI rfl rfl ?_
                  refine ur_ldI rfl rfl ?_
                  refine ur_push rfl ?_
                  obtain ⟨f338, p339, t340⟩ := mf_38 hO293 hc300
                  have t341 := fI_of hc300 p339
                  refine ur_inl rfl (rcv_of hc300) (Nat.le_of_ble_eq_true rfl) (Nat.le_of_ble_eq_true rfl) (se_X12_whoseBy hO293 (hX0.un hO0 hO293 (hu16.tr (hu271.tr hu293)) (by decide)) _ (by show 0 ≤ x11.toInt ∧ x11.toInt ≤ 149; omega) _ (by show 0 ≤ x284.toInt ∧ x284.toInt ≤ 11; omega) _ (by show -400 ≤ (0 : Int32).toInt ∧ (0 : Int32).toInt ≤ 400; omega) px296 (by omega) (by omega) (pre1.keep (KN.un hO0 (hu16.tr (hu271.tr hu293)) (by decide) (by decide) (by decide) (by decide) (by decide)) (by decide)) pre2 (rxf_uw pre3 hO0 (hu16.tr (hu271.tr hu293)) (by decide)) (pre4.un hO0 hO293 (hu16.tr (hu271.tr hu293)) (by decide) (by decide)) (pre5.keep (KN.un hO0 (hu16.tr (hu271.tr hu293)) (by decide) (by decide) (by decide) (by decide) (by decide)) (by decide)) pre6 (pre7.un hO0 hO293 (hu16.tr (hu271.tr hu293)) (by decide) (by decide)) (fun w342 h345 hr343 hO345 hv345 hp344 => ?_))
                  have hu345 : un [80, 81, 105, 106] h293 h345 := hv345.mono (by decide)
                  obtain ⟨x346, rfl, f347⟩ := hr343
                  show uRun _ (uCall Mt _) _ 56 (_, [(.inl x346)], _, _, _)
                  refine ur_push rfl ?_
                  refine ur_if2 rfl (fun c348 => ?_) (fun c348 => ?_)
                  · have t349 := lt_to c348
                    refine ur_incV (fun z => [some (.inr (.inr (some 69))), some (.inl a1), some (.inl x11), some (.inl z), none]) rfl rfl (fun _ => rfl) (fun x350 e351 => ?_)
                    have t352 := ti_add e351 (by omega) (by omega)
                    refine ur_go rfl ?_
                    obtain ⟨fs353, hc354⟩ := hO345.mod
                    obtain ⟨f355, p356, t357⟩ := mf_4 hO345 hc354
                    have t358 := fI_of hc354 p356
                    obtain ⟨f359, p360, t361⟩ := mf_38 hO345 hc354
                    have t362 := fI_of hc354 p360
                    have z363 := any_r x350
                    exact ih287 x350 _ hO345 (hu293.tr hu345) (by omega) (by rw [gV_f (gI_fk (a := 105) (kd := 0) (n := 150) hO293 hv345 (by decide) rfl (by decide) rfl (by decide) (by decide)) x11.toInt]; exact (FBw.n px294 (fun q => q.2 (LRf.n (by have q := f347.1; rw [gI_keep (a := 73) (kd := 0) (n := 12) hO0 (hu16.tr (hu271.tr hu293)) x284.toInt (by decide) rfl (by decide) rfl (by decide) (by decide), gI_keep (a := 72) (kd := 0) (n := 12) hO0 (hu16.tr (hu271.tr hu293)) x284.toInt (by decide) rfl (by decide) rfl (by decide) (by decide), show NMh h293 (gI h0 73 x284.toInt) = NMh h0 (gI h0 73 x284.toInt) from nxM_un hO0 hO293 (hu16.tr (hu271.tr hu293)) (by decide) (by decide) (by decide) _, FWm.e hO0 (hu16.tr (hu271.tr hu293)) (rt_c (CEm_of hO0 hX0) (KWm.un hO0 (hu16.tr (hu271.tr hu293)) (by decide)) (by omega) (by omega)) (by decide), l_0] at q; exact q) (by omega))) (by omega))) (FBm.e px295 (fun i i0 i1 => gV_f (gI_fk (a := 105) (kd := 0) (n := 150) hO293 hv345 (by decide) rfl (by decide) rfl (by decide) (by decide)) i)) hp344 (by omega)
                  · have t364 := lt_no c348
                    refine ur_ldA rfl rfl ?_
                    obtain ⟨fs365, hc366⟩ := hO345.mod
                    refine ur_get rfl hc366 (mf_55 hO345 hc366) ?_
                    refine ur_ldI rfl rfl ?_
                    refine ur_dup2 rfl rfl rfl ?_
                    obtain ⟨xs368, hc367, hn369, he370⟩ := hO345.int (hO345.fix 105 (by decide) rfl)
                    refine ur_aldV rfl hc367 hn369 (by omega) (fun x371 hx372 => ?_)
                    have t373 := gI_of (j := x11) hc367 hx372
                    refine ur_push rfl ?_
                    refine ur_ldI rfl rfl ?_
                    refine ur_binV rfl (fun x374 e375 => ?_)
                    refine ur_binV rfl (fun x376 e377 => ?_)
                    refine ur_astV (W := [105]) (m := 150) rfl hO345 hc367 (by decide) hn369 (by omega) (any_r _) (Or.inr (Or.inr (wid_fix (by decide) (by decide)))) (fun h380 hO380 hv380 d378 hc379 => ?_)
                    have hu380 : un [80, 81, 105, 106] h345 h380 := hv380.mono (by decide)
                    have w381 : wI h345 h380 105 ((arI h345 105).set (x11 : Int32).toInt.toNat x376) := ⟨by rw [arI_of hc379, arI_of hc367], d378⟩
                    refine ur_incV (fun z => [some (.inr (.inr (some 69))), some (.inl a1), some (.inl x11), some (.inl z), none]) rfl rfl (fun _ => rfl) (fun x382 e383 => ?_)
                    have t384 := ti_add e383 (by omega) (by omega)
                    refine ur_go rfl ?_
                    obtain ⟨f385, p386, t387⟩ := mf_4 hO380 ((d378 _ (by decide)).trans hc366)
                    have t388 := fI_of ((d378 _ (by decide)).trans hc366) p386
                    obtain ⟨f389, p390, t391⟩ := mf_38 hO380 ((d378 _ (by decide)).trans hc366)
                    have t392 := fI_of ((d378 _ (by decide)).trans hc366) p390
                    have z393 := any_r x382
                    exact ih287 x382 _ hO380 (hu293.tr (hu345.tr hu380)) (by omega) (FBw.y px294 ⟨by omega, LRf.y (by have q := f347.1; rw [gI_keep (a := 73) (kd := 0) (n := 12) hO0 (hu16.tr (hu271.tr hu293)) x284.toInt (by decide) rfl (by decide) rfl (by decide) (by decide), gI_keep (a := 72) (kd := 0) (n := 12) hO0 (hu16.tr (hu271.tr hu293)) x284.toInt (by decide) rfl (by decide) rfl (by decide) (by decide), show NMh h293 (gI h0 73 x284.toInt) = NMh h0 (gI h0 73 x284.toInt) from nxM_un hO0 hO293 (hu16.tr (hu271.tr hu293)) (by decide) (by decide) (by decide) _, FWm.e hO0 (hu16.tr (hu271.tr hu293)) (rt_c (CEm_of hO0 hX0) (KWm.un hO0 (hu16.tr (hu271.tr hu293)) (by decide)) (by omega) (by omega)) (by decide), l_0] at q; exact q) (by omega) (fun j t t' j0 j1 r r' => retV_f r r' ⟨j0, j1⟩)⟩ (shl_1 e375 (by omega)) (by omega) (by rw [gV_f rfl x11.toInt, ((sq_V (am_l (a := 105) hO345 (by decide) rfl (by decide)) w381 (by omega)) x11.toInt (by omega)).1 (by omega), ← gV_f (gI_fk (a := 105) (kd := 0) (n := 150) hO293 hv345 (by decide) rfl (by decide) rfl (by decide) (by decide)) x11.toInt, gV_i (show gI h345 105 x11.toInt = x371.toInt by omega)]; exact e377) (by omega)) (FBm.e px295 (fun i i0 i1 => (gV_f rfl i).trans ((((sq_V (am_l (a := 105) hO345 (by decide) rfl (by decide)) w381 (by omega)) i i0).2 (by omega)).trans (gV_f (gI_fk (a := 105) (kd := 0) (n := 150) hO293 hv345 (by decide) rfl (by decide) rfl (by decide) (by decide)) i)))) (hp344.un hO345 hO380 hv380 (by decide)) (by omega)
          exact L285 _ 0 _ hO271 un.rf (by omega) (FBw.z (((sq_V (am_l (a := 105) hO16 (by decide) rfl (by decide)) w272 (by omega)) x11.toInt (by omega)).1 rfl) (by omega)) (FBm.e px17 (fun i i0 i1 => (gV_f rfl i).trans ((((sq_V (am_l (a := 105) hO16 (by decide) rfl (by decide)) w272 (by omega)) i i0).2 (by omega)).trans (gV_f rfl i)))) (px18.un hO16 hO271 hv271 (by decide)) (Nat.lt_succ_self _)
        · have t394 := ne_no c282
          refine ur_go rfl ?_
          refine ur_incV (fun z => [some (.inr (.inr (some 69))), some (.inl a1), some (.inl z), u12, none]) rfl rfl (fun _ => rfl) (fun x395 e396 => ?_)
          have t397 := ti_add e396 (by omega) (by omega)
          refine ur_go rfl ?_
          obtain ⟨f398, p399, t400⟩ := mf_4 hO271 ((d269 _ (by decide)).trans hc22)
          have t401 := fI_of ((d269 _ (by decide)).trans hc22) p399
          have t402 := fI_of ((d269 _ (by decide)).trans hc22) p24
          have z403 := any_r x395
          exact ih15 x395 _ _ hO271 (hu16.tr hu271) (by omega) (FBm.s (FBm.e px17 (fun i i0 i1 => (gV_f rfl i).trans ((((sq_V (am_l (a := 105) hO16 (by decide) rfl (by decide)) w272 (by omega)) i i0).2 (by omega)).trans (gV_f rfl i)))) (fun k => absurd (show gI h0 96 x11.toInt = 3 by omega) k) (by omega)) (px18.un hO16 hO271 hv271 (by decide)) (by omega)
  exact L13 _ 0 (none) _ hO0 un.rf (by omega) (FBm.z (by omega)) pre0 (Nat.lt_succ_self _)


end WSB1
