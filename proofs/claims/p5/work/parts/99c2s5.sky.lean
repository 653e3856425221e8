/-! THE SKY of the class: one that breaks; printed by program -/
section SKY5
set_option maxRecDepth 20000 in
set_option maxHeartbeats 4000000 in
theorem sd_X6_breakComet {d kc ks : Nat} {h0 : aH} {Q : Option aV → aH → Prop} (hO0 : OK h0) (a1 : Int32) (a2 : Int32) (b2 : -60 ≤ a2.toInt ∧ a2.toInt ≤ 60) (pre0 : SKc h0) (pre1 : (0 ≤ a1.toInt ∧ a1.toInt < fO h0 1 4)) (pre2 : ∀ z, cz h0 a1.toInt z → fO h0 z 8 ≤ a2.toInt ∧ a2.toInt ≤ fO h0 z 9) (pre3 : fO h0 1 4 ≤ 10) (hQ : ∀ r h', (∃ x : Int32, r = some (.inl x) ∧ (x.toInt = (fO h0 1 4) ∧ fO h' 1 4 = (fO h0 1 4) + 2)) → OK h' → un [4, 221, 1104, 9002, 21207, 21208, 21209] h0 h' → (nC h' ≤ nC h0 + 2) → (SKc h') → (KCc 7 h0 h') → (∃ z, cz h0 a1.toInt z ∧ fO h' z 7 = a2.toInt ∧ (∀ (c : Int) (y : Nat), 0 ≤ c → c < (fO h0 1 4) → c ≠ a1.toInt → cz h0 c y → fO h' y 7 = fO h0 y 7) ∧ (∃ y, NCz h' (fO h0 1 4) y (cf h0 z a2.toInt) (fO h0 z 1 + 30) ((fO h0 z 2 + 1) % 360) (fO h0 z 3) (fO h0 z 4) (if fO h0 z 5 = 0 then 0 else fO h0 z 5 - 1) a1.toInt) ∧ ∃ y, NCz h' ((fO h0 1 4) + 1) y (cf h0 z a2.toInt) (fO h0 z 1 - 30) ((fO h0 z 2 + 359) % 360) (fO h0 z 3) (fO h0 z 4) (if fO h0 z 5 = 0 then 0 else fO h0 z 5 - 1) a1.toInt) → Q r h') : uCall Mt (d + 6) 64 [(.inr (.inr (some 1))), (.inl a1), (.inl a2)] h0 kc ks Q := by
  have l_0 : ((0) : Int32).toInt = 0 := by decide
  have l_1 : ((1) : Int32).toInt = 1 := by decide
  have l_30 : ((30) : Int32).toInt = 30 := by decide
  have l_360 : ((360) : Int32).toInt = 360 := by decide
  refine uc_ink [some (.inr (.inr (some 1))), some (.inl a1), some (.inl a2), none, none, none, none, none, none] mt_64 (Nat.le_of_ble_eq_true rfl) rfl ?_
  obtain ⟨f2, f3, hc1, k4⟩ := ok_1 hO0
  have t5 := fO_of (k := 4) hc1 rfl
  refine ur_ldA rfl rfl ?_
  refine ur_ldI rfl rfl ?_
  refine ur_inl rfl (rcv_of hc1) (Nat.le_of_ble_eq_true rfl) (Nat.le_of_ble_eq_true rfl) (sd_X6_cometAt hO0 _ pre0 (fun w6 hr7 => ?_))
  obtain ⟨o8, rfl, k9, t10, t11⟩ := hr7
  show uRun _ (uCall Mt _) _ 5 (_, [(.inr (.inr o8))], _, _, _)
  refine ur_svAk [some (.inr (.inr (some 1))), some (.inl a1), some (.inl a2), some (.inr (.inr o8)), none, none, none, none, none] rfl rfl ?_
  refine ur_ldA rfl rfl ?_
  cases o8 with
  | none =>
    refine ur_nulN rfl ?_
    have t13 := t10 rfl
    exfalso
    omega
  | some r12 =>
    refine ur_nulS rfl ?_
    have k14 := k9 _ rfl
    have t15 := t11 _ rfl
    obtain ⟨y19, w20, p17, p18⟩ := pre0.2.1 a1.toInt (by omega) (by omega)
    have e21 := cz_u t15.2 w20
    subst e21
    unfold CMz CMr at p17
    have p18 := p18 (by omega)
    obtain ⟨g42, f23, f24, f25, f26, f27, f28, f29, f30, f31, f32, q33, q34, o35, q36, hc22, k37, k38, k39, k40, k41⟩ := hO0.comet k14.2
    have t43 := fO_of (k := 0) hc22 rfl
    have t44 := fO_of (k := 1) hc22 rfl
    have t45 := fO_of (k := 2) hc22 rfl
    have t46 := fO_of (k := 3) hc22 rfl
    have t47 := fO_of (k := 4) hc22 rfl
    have t48 := fO_of (k := 5) hc22 rfl
    have t49 := fO_of (k := 6) hc22 rfl
    have t50 := fO_of (k := 7) hc22 rfl
    have t51 := fO_of (k := 8) hc22 rfl
    have t52 := fO_of (k := 9) hc22 rfl
    have t16 := p18.2 a2.toInt (by have q := pre2 _ w20; omega) (by have q := pre2 _ w20; omega)
    have t53 := pre2 _ w20
    refine ur_ldA rfl rfl ?_
    refine ur_ldI rfl rfl ?_
    refine ur_putV (W := [21207]) (fs' := [(.inl f23), (.inl f24), (.inl f25), (.inl f26), (.inl f27), (.inl f28), (.inl f29), (.inl a2), (.inl f31), (.inl f32), (.inr (.inr (some q33))), (.inr (.inr (some q34))), (.inr (.inr o35)), (.inr (.inr (some q36)))]) rfl hO0 hc22 (Nat.le_of_ble_eq_true rfl) rfl rfl ⟨g42, _, _, _, _, _, _, _, _, _, _, _, _, _, _, rfl, ⟨k37.1, k37.2⟩, ⟨k38.1, k38.2⟩, k39, ⟨k40.1, k40.2⟩, by omega⟩ rfl (Or.inr (by show 1000 + 100 * wid r12 (102, 14) + 7 ∈ _; rw [(wid_c g42)]; decide)) (fun h55 hO55 hv55 d54 hc56 => ?_)
    have hu55 : un [4, 221, 1104, 9002, 21207, 21208, 21209] h0 h55 := hv55.mono (by decide)
    refine ur_ldA rfl rfl ?_
    refine ur_get rfl hc56 rfl ?_
    refine ur_push rfl ?_
    refine ur_binV rfl (fun x57 e58 => ?_)
    have z59 := any_r f28
    have t60 := ti_sub e58 (by omega) (by omega)
    refine ur_push rfl ?_
    refine ur_maxV rfl (by show ¬ 9 ≤ 2; decide) (fun x61 t62 e63 => ?_)
    refine ur_svIk [some (.inr (.inr (some 1))), some (.inl a1), some (.inl a2), some (.inr (.inr (some r12))), some (.inl x61), none, none, none, none] rfl rfl ?_
    refine ur_ldA rfl rfl ?_
    refine ur_ldI rfl rfl ?_
    have t64 := fO_keep (a := 1) (ci := 6) (n := 5) (k := 4) hO0 hO55 hv55 (by decide) rfl (by decide) rfl (by decide)
    refine ur_inl rfl (rcv_of hc56) (Nat.le_of_ble_eq_true rfl) (Nat.le_of_ble_eq_true rfl) (sd_X2_passOf hO55 g42 (hu55.tm k14.2 (by decide)) _ (by show -60 ≤ a2.toInt ∧ a2.toInt ≤ 60; omega) (fun w65 hr66 => ?_))
    obtain ⟨x67, rfl, f68⟩ := hr66
    show uRun _ (uCall Mt _) _ 34 (_, [(.inl x67)], _, _, _)
    have t69 : x67.toInt = cf h0 r12 a2.toInt := by rw [f68, show qP h55 r12 = qP h0 r12 from (qP_e (fC_un hO0 hu55 g42 (cz_ok hO0 w20).2 (by decide) (by decide))), gI_e (show arI h55 (qP h0 r12) = arI h0 (qP h0 r12) by obtain ⟨q, -, e, gq, tq, -, -⟩ := (cm_q hO0 (cz_ok hO0 w20).2); rw [e]; exact arI_p hO0 hv55 gq tq (by decide))]; unfold cf; rw [if_pos (by omega)]
    rw [← t69] at t16
    refine ur_svIk [some (.inr (.inr (some 1))), some (.inl a1), some (.inl a2), some (.inr (.inr (some r12))), some (.inl x61), some (.inl x67), none, none, none] rfl rfl ?_
    have t70 := fO_of (k := 1) hc56 rfl
    have t71 := fO_of (k := 2) hc56 rfl
    have t72 := fO_of (k := 3) hc56 rfl
    have t73 := fO_of (k := 4) hc56 rfl
    have t74 := fO_of (k := 5) hc56 rfl
    refine ur_ldA rfl rfl ?_
    refine ur_get rfl hc56 rfl ?_
    refine ur_push rfl ?_
    refine ur_binV rfl (fun x75 e76 => ?_)
    have z77 := any_r f25
    have t78 := ti_add e76 (by omega) (by omega)
    refine ur_push rfl ?_
    refine ur_divV rfl (by decide) (fun x79 e80 => ?_)
    have z81 := any_r x75
    have t82 := ti_rem e80 l_360 (by decide) (by omega)
    refine ur_svIk [some (.inr (.inr (some 1))), some (.inl a1), some (.inl a2), some (.inr (.inr (some r12))), some (.inl x61), some (.inl x67), some (.inl x79), none, none] rfl rfl ?_
    refine ur_ldA rfl rfl ?_
    refine ur_get rfl hc56 rfl ?_
    refine ur_push rfl ?_
    refine ur_binV rfl (fun x83 e84 => ?_)
    have t85 := ti_add e84 (by omega) (by omega)
    refine ur_push rfl ?_
    refine ur_binV rfl (fun x86 e87 => ?_)
    have z88 := any_r x83
    have t89 := ti_sub e87 (by omega) (by omega)
    refine ur_push rfl ?_
    refine ur_divV rfl (by decide) (fun x90 e91 => ?_)
    have z92 := any_r x86
    have t93 := ti_rem e91 l_360 (by decide) (by omega)
    refine ur_svIk [some (.inr (.inr (some 1))), some (.inl a1), some (.inl a2), some (.inr (.inr (some r12))), some (.inl x61), some (.inl x67), some (.inl x79), some (.inl x90), none] rfl rfl ?_
    refine ur_ldA rfl rfl ?_
    refine ur_new rfl (Nat.le_of_ble_eq_true rfl) ?_
    refine ur_dup rfl rfl ?_
    refine ur_ldI rfl rfl ?_
    refine ur_ldA rfl rfl ?_
    refine ur_get rfl (hs_ap hc56) rfl ?_
    refine ur_push rfl ?_
    refine ur_binV rfl (fun x95 e96 => ?_)
    have z97 := any_r f24
    have t98 := ti_add e96 (by omega) (by omega)
    refine ur_ldI rfl rfl ?_
    refine ur_ldA rfl rfl ?_
    refine ur_get rfl (hs_ap hc56) rfl ?_
    refine ur_ldA rfl rfl ?_
    refine ur_get rfl (hs_ap hc56) rfl ?_
    refine ur_ldI rfl rfl ?_
    refine ur_ldI rfl rfl ?_
    refine ur_inl rfl (rcv_of ap_0) (Nat.le_of_ble_eq_true rfl) (Nat.le_of_ble_eq_true rfl) (sd_newComet hO55 _ _ _ _ _ _ _ (fun w99 h102 hr100 hO102 hv102 k101 hn107 hx103 => ?_))
    obtain ⟨ds105, hd106, hx103⟩ := hx103
    have hc104 : h102[h55.length]? = some (.inl (2, [.inl x67, .inl x95, .inl x79, .inl f26, .inl f27, .inl x61, .inl a1, .inl (-2000000000), .inl 0, .inl 0, .inr (.inr (some (h55.length + 1))), .inr (.inr (some (h55.length + 2))), .inr (.inr none), .inr (.inr (some (h55.length + 3)))])) := by rw [hx103]; exact (ap_get (j := 0)).trans rfl
    have hu102 : un [4, 221, 1104, 9002, 21207, 21208, 21209] h55 h102 := hv102.mono (by decide)
    subst hr100
    show uRun _ (uCall Mt _) _ 94 (_, [(.inr (.inr (some h55.length))), (.inr (.inr (some 1)))], _, _, _)
    have fr108 : ∀ (c : Int) (z : Nat), 0 ≤ c → c < fO h102 1 4 → cz h102 c z → z ≠ h55.length ∧ qP h102 z ≠ qP h102 (h55.length) := fun c z _ _ w => cm_fr hO55 rfl (fun b hb => by rw [hx103]; exact List.getElem?_append_left hb) (fA_of (k := 10) hc104) c z (cz_c (arR_u4 hO55 hv102 (by decide)) w)
    have t109 : fO h102 (h55.length) 0 = (x67 : Int32).toInt := fO_fA (fA_of (k := 0) hc104)
    have t110 : fO h102 (h55.length) 1 = (x95 : Int32).toInt := fO_fA (fA_of (k := 1) hc104)
    have t111 : fO h102 (h55.length) 2 = (x79 : Int32).toInt := fO_fA (fA_of (k := 2) hc104)
    have t112 : fO h102 (h55.length) 3 = (f26 : Int32).toInt := fO_fA (fA_of (k := 3) hc104)
    have t113 : fO h102 (h55.length) 4 = (f27 : Int32).toInt := fO_fA (fA_of (k := 4) hc104)
    have t114 : fO h102 (h55.length) 5 = (x61 : Int32).toInt := fO_fA (fA_of (k := 5) hc104)
    have t115 : fO h102 (h55.length) 6 = (a1 : Int32).toInt := fO_fA (fA_of (k := 6) hc104)
    have t117 := fO_of (k := 4) (hv102.ko (n := 5) ((d54 _ (ne_tg (hO102.fix 1 (by decide) rfl) (hu102.tm (hu55.tm k14.2 (by decide)) (by decide)) (by decide))).trans hc1) rfl (wid_f (by decide)) (by decide)) rfl
    have t118 := fO_keep (a := 1) (ci := 6) (n := 5) (k := 4) hO55 hO102 hv102 (by decide) rfl (by decide) rfl (by decide)
    have m116 : CMz h102 (fO h102 1 4) (h55.length) := by unfold CMz CMr; omega
    have t119 := fO_of (k := 2) (hv102.ko (n := 5) ((d54 _ (ne_tg (hO102.fix 1 (by decide) rfl) (hu102.tm (hu55.tm k14.2 (by decide)) (by decide)) (by decide))).trans hc1) rfl (wid_f (by decide)) (by decide)) rfl
    refine ur_inl rfl (rcv_of (hv102.ko (n := 5) ((d54 _ (ne_tg (hO102.fix 1 (by decide) rfl) (hu102.tm (hu55.tm k14.2 (by decide)) (by decide)) (by decide))).trans hc1) rfl (wid_f (by decide)) (by decide))) (Nat.le_of_ble_eq_true rfl) (Nat.le_of_ble_eq_true rfl) (sd_X6_addComet hO102 k101.1 k101.2 ((pre0.un hO0 hO55 hv55 (by decide)).un hO55 hO102 hv102 (by decide)) (by omega) fr108 m116 (fun w120 h126 hr121 hO126 hv126 hp122 hp123 hp124 hp125 => ?_))
    have hu126 : un [4, 221, 1104, 9002, 21207, 21208, 21209] h102 h126 := hv126.mono (by decide)
    obtain ⟨x127, rfl, t128⟩ := hr121
    show uRun _ (uCall Mt _) _ 97 (_, [(.inl x127)], _, _, _)
    obtain ⟨f130, f131, hc129, k132⟩ := ok_1 hO126
    have t133 := fO_of (k := 4) hc129 rfl
    refine ur_svIk [some (.inr (.inr (some 1))), some (.inl a1), some (.inl a2), some (.inr (.inr (some r12))), some (.inl x61), some (.inl x67), some (.inl x79), some (.inl x90), some (.inl x127)] rfl rfl ?_
    obtain ⟨g154, f135, f136, f137, f138, f139, f140, f141, f142, f143, f144, q145, q146, o147, q148, hc134, k149, k150, k151, k152, k153⟩ := hO126.comet (hu126.tm (hu102.tm (hu55.tm k14.2 (by decide)) (by decide)) (by decide))
    have t155 := fO_of (k := 1) (hv102.ko (n := 14) hc56 rfl (wid_c g154) (by decide)) rfl
    have t156 := fO_of (k := 1) hc134 rfl
    have t157 : fO h126 r12 1 = fO h102 r12 1 := fO_eA (fC_un hO102 hv126 g154 (hu102.tm (hu55.tm k14.2 (by decide)) (by decide)) (by decide) (by decide))
    have t158 := fO_of (k := 2) (hv102.ko (n := 14) hc56 rfl (wid_c g154) (by decide)) rfl
    have t159 := fO_of (k := 2) hc134 rfl
    have t160 : fO h126 r12 2 = fO h102 r12 2 := fO_eA (fC_un hO102 hv126 g154 (hu102.tm (hu55.tm k14.2 (by decide)) (by decide)) (by decide) (by decide))
    have t161 := fO_of (k := 3) (hv102.ko (n := 14) hc56 rfl (wid_c g154) (by decide)) rfl
    have t162 := fO_of (k := 3) hc134 rfl
    have t163 : fO h126 r12 3 = fO h102 r12 3 := fO_eA (fC_un hO102 hv126 g154 (hu102.tm (hu55.tm k14.2 (by decide)) (by decide)) (by decide) (by decide))
    have t164 := fO_of (k := 4) (hv102.ko (n := 14) hc56 rfl (wid_c g154) (by decide)) rfl
    have t165 := fO_of (k := 4) hc134 rfl
    have t166 : fO h126 r12 4 = fO h102 r12 4 := fO_eA (fC_un hO102 hv126 g154 (hu102.tm (hu55.tm k14.2 (by decide)) (by decide)) (by decide) (by decide))
    refine ur_ldA rfl rfl ?_
    refine ur_new rfl (Nat.le_of_ble_eq_true rfl) ?_
    refine ur_dup rfl rfl ?_
    refine ur_ldI rfl rfl ?_
    refine ur_ldA rfl rfl ?_
    refine ur_get rfl (hs_ap hc134) rfl ?_
    refine ur_push rfl ?_
    refine ur_binV rfl (fun x168 e169 => ?_)
    have z170 := any_r f136
    have t171 := ti_sub e169 (by omega) (by omega)
    refine ur_ldI rfl rfl ?_
    refine ur_ldA rfl rfl ?_
    refine ur_get rfl (hs_ap hc134) rfl ?_
    refine ur_ldA rfl rfl ?_
    refine ur_get rfl (hs_ap hc134) rfl ?_
    refine ur_ldI rfl rfl ?_
    refine ur_ldI rfl rfl ?_
    refine ur_inl rfl (rcv_of ap_0) (Nat.le_of_ble_eq_true rfl) (Nat.le_of_ble_eq_true rfl) (sd_newComet hO126 _ _ _ _ _ _ _ (fun w172 h175 hr173 hO175 hv175 k174 hn180 hx176 => ?_))
    obtain ⟨ds178, hd179, hx176⟩ := hx176
    have hc177 : h175[h126.length]? = some (.inl (2, [.inl x67, .inl x168, .inl x90, .inl f138, .inl f139, .inl x61, .inl a1, .inl (-2000000000), .inl 0, .inl 0, .inr (.inr (some (h126.length + 1))), .inr (.inr (some (h126.length + 2))), .inr (.inr none), .inr (.inr (some (h126.length + 3)))])) := by rw [hx176]; exact (ap_get (j := 0)).trans rfl
    have hu175 : un [4, 221, 1104, 9002, 21207, 21208, 21209] h126 h175 := hv175.mono (by decide)
    subst hr173
    show uRun _ (uCall Mt _) _ 129 (_, [(.inr (.inr (some h126.length))), (.inr (.inr (some 1)))], _, _, _)
    have fr181 : ∀ (c : Int) (z : Nat), 0 ≤ c → c < fO h175 1 4 → cz h175 c z → z ≠ h126.length ∧ qP h175 z ≠ qP h175 (h126.length) := fun c z _ _ w => cm_fr hO126 rfl (fun b hb => by rw [hx176]; exact List.getElem?_append_left hb) (fA_of (k := 10) hc177) c z (cz_c (arR_u4 hO126 hv175 (by decide)) w)
    have t182 : fO h175 (h126.length) 0 = (x67 : Int32).toInt := fO_fA (fA_of (k := 0) hc177)
    have t183 : fO h175 (h126.length) 1 = (x168 : Int32).toInt := fO_fA (fA_of (k := 1) hc177)
    have t184 : fO h175 (h126.length) 2 = (x90 : Int32).toInt := fO_fA (fA_of (k := 2) hc177)
    have t185 : fO h175 (h126.length) 3 = (f138 : Int32).toInt := fO_fA (fA_of (k := 3) hc177)
    have t186 : fO h175 (h126.length) 4 = (f139 : Int32).toInt := fO_fA (fA_of (k := 4) hc177)
    have t187 : fO h175 (h126.length) 5 = (x61 : Int32).toInt := fO_fA (fA_of (k := 5) hc177)
    have t188 : fO h175 (h126.length) 6 = (a1 : Int32).toInt := fO_fA (fA_of (k := 6) hc177)
    have t190 := fO_of (k := 4) (hv175.ko (n := 5) hc129 rfl (wid_f (by decide)) (by decide)) rfl
    have t191 := fO_keep (a := 1) (ci := 6) (n := 5) (k := 4) hO126 hO175 hv175 (by decide) rfl (by decide) rfl (by decide)
    have m189 : CMz h175 (fO h175 1 4) (h126.length) := by unfold CMz CMr; omega
    have t192 := fO_of (k := 2) (hv175.ko (n := 5) hc129 rfl (wid_f (by decide)) (by decide)) rfl
    refine ur_inl rfl (rcv_of (hv175.ko (n := 5) hc129 rfl (wid_f (by decide)) (by decide))) (Nat.le_of_ble_eq_true rfl) (Nat.le_of_ble_eq_true rfl) (sd_X6_addComet hO175 k174.1 k174.2 (hp123.un hO126 hO175 hv175 (by decide)) (by omega) fr181 m189 (fun w193 h199 hr194 hO199 hv199 hp195 hp196 hp197 hp198 => ?_))
    have hu199 : un [4, 221, 1104, 9002, 21207, 21208, 21209] h175 h199 := hv199.mono (by decide)
    obtain ⟨x200, rfl, t201⟩ := hr194
    show uRun _ (uCall Mt _) _ 132 (_, [(.inl x200)], _, _, _)
    obtain ⟨f203, f204, hc202, k205⟩ := ok_1 hO199
    have t206 := fO_of (k := 4) hc202 rfl
    refine ur_pop rfl rfl ?_
    refine ur_ldI rfl rfl ?_
    have t207 := hv55.nC (by decide)
    have t208 := hv126.nC (by decide)
    have t209 := hv199.nC (by decide)
    exact ur_ret rfl rfl (hQ _ _ ⟨_, rfl, by omega⟩ hO199 (hu55.tr (hu102.tr (hu126.tr (hu175.tr hu199)))) (by omega) hp196 (((((KCc.un hO0 hv55 (by decide) (by decide) (by decide)).tr (KCc.un hO55 hv102 (by decide) (by decide) (by decide)) (by omega)).tr (hp124.le (by decide)) (by omega)).tr (KCc.un hO126 hv175 (by decide) (by decide) (by decide)) (by omega)).tr (hp197.le (by decide)) (by omega)) ⟨r12, w20, (fO_fA (((fC_un hO175 hv199 g154 (hu175.tm (hu126.tm (hu102.tm (hu55.tm k14.2 (by decide)) (by decide)) (by decide)) (by decide)) (by decide) (by decide)).trans ((fC_un hO126 hv175 g154 (hu126.tm (hu102.tm (hu55.tm k14.2 (by decide)) (by decide)) (by decide)) (by decide) (by decide)).trans ((fC_un hO102 hv126 g154 (hu102.tm (hu55.tm k14.2 (by decide)) (by decide)) (by decide) (by decide)).trans (fC_un hO55 hv102 g154 (hu55.tm k14.2 (by decide)) (by decide) (by decide))))).trans (fA_of (k := 7) hc56))), (fun c y c0 c1 ci w => by have t0 := cz_ok hO0 w; have ne : y ≠ r12 := (pre0.2.2 c a1.toInt y r12 c0 c1 (by omega) (by omega) ci w w20).1; have t1 : tg h55 y = (102, 14) := (hu55.tm t0.2 (by decide)); have e1 := (fA_c (d54 y ne) 7); have e2 := (fC_un (k := 7) hO55 hv102 t0.1 t1 (by decide) (by decide)).trans e1; have t2 : tg h102 y = (102, 14) := (hu102.tm t1 (by decide)); have e3 := (fC_un (k := 7) hO102 hv126 t0.1 t2 (by decide) (by decide)).trans e2; have t3 : tg h126 y = (102, 14) := (hu126.tm t2 (by decide)); have e4 := (fC_un (k := 7) hO126 hv175 t0.1 t3 (by decide) (by decide)).trans e3; have t4 : tg h175 y = (102, 14) := (hu175.tm t3 (by decide)); have e5 := (fC_un (k := 7) hO175 hv199 t0.1 t4 (by decide) (by decide)).trans e4; have t5 : tg h199 y = (102, 14) := (hu199.tm t4 (by decide)); exact fO_eA e5), ⟨h55.length, ((((KCc.un hO126 hv175 (by decide) (by decide) (by decide)).tr hp197 (by omega))) _ _ (by omega) (by omega) (by have q := hp125; rw [show fO h102 1 4 = fO h0 1 4 by omega] at q; exact q)).1, (fO_fA (((fC_un hO175 hv199 k101.1 (hu175.tm (hu126.tm k101.2 (by decide)) (by decide)) (by decide) (by decide)).trans ((fC_un hO126 hv175 k101.1 (hu126.tm k101.2 (by decide)) (by decide) (by decide)).trans (fC_un hO102 hv126 k101.1 k101.2 (by decide) (by decide)))).trans (fA_of (k := 0) hc104))).trans t69, (fO_fA (((fC_un hO175 hv199 k101.1 (hu175.tm (hu126.tm k101.2 (by decide)) (by decide)) (by decide) (by decide)).trans ((fC_un hO126 hv175 k101.1 (hu126.tm k101.2 (by decide)) (by decide) (by decide)).trans (fC_un hO102 hv126 k101.1 k101.2 (by decide) (by decide)))).trans (fA_of (k := 1) hc104))).trans (by omega), (fO_fA (((fC_un hO175 hv199 k101.1 (hu175.tm (hu126.tm k101.2 (by decide)) (by decide)) (by decide) (by decide)).trans ((fC_un hO126 hv175 k101.1 (hu126.tm k101.2 (by decide)) (by decide) (by decide)).trans (fC_un hO102 hv126 k101.1 k101.2 (by decide) (by decide)))).trans (fA_of (k := 2) hc104))).trans (by omega), (fO_fA (((fC_un hO175 hv199 k101.1 (hu175.tm (hu126.tm k101.2 (by decide)) (by decide)) (by decide) (by decide)).trans ((fC_un hO126 hv175 k101.1 (hu126.tm k101.2 (by decide)) (by decide) (by decide)).trans (fC_un hO102 hv126 k101.1 k101.2 (by decide) (by decide)))).trans (fA_of (k := 3) hc104))).trans (by omega), (fO_fA (((fC_un hO175 hv199 k101.1 (hu175.tm (hu126.tm k101.2 (by decide)) (by decide)) (by decide) (by decide)).trans ((fC_un hO126 hv175 k101.1 (hu126.tm k101.2 (by decide)) (by decide) (by decide)).trans (fC_un hO102 hv126 k101.1 k101.2 (by decide) (by decide)))).trans (fA_of (k := 4) hc104))).trans (by omega), (fO_fA (((fC_un hO175 hv199 k101.1 (hu175.tm (hu126.tm k101.2 (by decide)) (by decide)) (by decide) (by decide)).trans ((fC_un hO126 hv175 k101.1 (hu126.tm k101.2 (by decide)) (by decide) (by decide)).trans (fC_un hO102 hv126 k101.1 k101.2 (by decide) (by decide)))).trans (fA_of (k := 5) hc104))).trans (by split <;> omega), (fO_fA (((fC_un hO175 hv199 k101.1 (hu175.tm (hu126.tm k101.2 (by decide)) (by decide)) (by decide) (by decide)).trans ((fC_un hO126 hv175 k101.1 (hu126.tm k101.2 (by decide)) (by decide) (by decide)).trans (fC_un hO102 hv126 k101.1 k101.2 (by decide) (by decide)))).trans (fA_of (k := 6) hc104))), (fO_fA (((fC_un hO175 hv199 k101.1 (hu175.tm (hu126.tm k101.2 (by decide)) (by decide)) (by decide) (by decide)).trans ((fC_un hO126 hv175 k101.1 (hu126.tm k101.2 (by decide)) (by decide) (by decide)).trans (fC_un hO102 hv126 k101.1 k101.2 (by decide) (by decide)))).trans (fA_of (k := 7) hc104))).trans (by decide)⟩, ⟨h126.length, (by have q := hp198; rw [show fO h175 1 4 = fO h0 1 4 + 1 by omega] at q; exact q), (fO_fA ((fC_un hO175 hv199 k174.1 k174.2 (by decide) (by decide)).trans (fA_of (k := 0) hc177))).trans t69, (fO_fA ((fC_un hO175 hv199 k174.1 k174.2 (by decide) (by decide)).trans (fA_of (k := 1) hc177))).trans (by omega), (fO_fA ((fC_un hO175 hv199 k174.1 k174.2 (by decide) (by decide)).trans (fA_of (k := 2) hc177))).trans (by omega), (fO_fA ((fC_un hO175 hv199 k174.1 k174.2 (by decide) (by decide)).trans (fA_of (k := 3) hc177))).trans (by omega), (fO_fA ((fC_un hO175 hv199 k174.1 k174.2 (by decide) (by decide)).trans (fA_of (k := 4) hc177))).trans (by omega), (fO_fA ((fC_un hO175 hv199 k174.1 k174.2 (by decide) (by decide)).trans (fA_of (k := 5) hc177))).trans (by split <;> omega), (fO_fA ((fC_un hO175 hv199 k174.1 k174.2 (by decide) (by decide)).trans (fA_of (k := 6) hc177))), (fO_fA ((fC_un hO175 hv199 k174.1 k174.2 (by decide) (by decide)).trans (fA_of (k := 7) hc177))).trans (by decide)⟩⟩)

set_option maxRecDepth 20000 in
set_option maxHeartbeats 4000000 in
theorem sd_X11_broke {d kc ks : Nat} {h0 : aH} {Q : Option aV → aH → Prop} (hO0 : OK h0) (a1 : Int32) (a2 : Int32) (pre0 : SKc h0) (hQ : ∀ r h', (∃ x : Int32, r = some (.inl x) ∧ ((¬ ((0 ≤ a1.toInt ∧ a1.toInt < fO h0 1 4) ∧ -60 ≤ a2.toInt ∧ a2.toInt ≤ 60) → x.toInt = -1 ∧ fO h' 1 4 = (fO h0 1 4)) ∧ (((0 ≤ a1.toInt ∧ a1.toInt < fO h0 1 4) ∧ -60 ≤ a2.toInt ∧ a2.toInt ≤ 60) → ∃ z, cz h0 a1.toInt z ∧ (¬ (fO h0 z 8 ≤ a2.toInt ∧ a2.toInt ≤ fO h0 z 9) → x.toInt = -2 ∧ fO h' 1 4 = (fO h0 1 4)) ∧ ((fO h0 z 8 ≤ a2.toInt ∧ a2.toInt ≤ fO h0 z 9) → (fO h0 z 7 ≠ -2000000000 → x.toInt = -5 ∧ fO h' 1 4 = (fO h0 1 4)) ∧ (fO h0 z 7 = -2000000000 → (12 < (fO h0 1 4) + 2 → x.toInt = -3 ∧ fO h' 1 4 = (fO h0 1 4)) ∧ ((fO h0 1 4) + 2 ≤ 12 → x.toInt = (fO h0 1 4) ∧ fO h' 1 4 = (fO h0 1 4) + 2)))))) → OK h' → un [4, 221, 1104, 9002, 21207, 21208, 21209] h0 h' → (nC h' ≤ nC h0 + 2) → (SKc h') → (KCc 7 h0 h') → (imG (fO h' 1 4 = (fO h0 1 4) + 2) (∃ z, cz h0 a1.toInt z ∧ fO h' z 7 = a2.toInt ∧ (∀ (c : Int) (y : Nat), 0 ≤ c → c < (fO h0 1 4) → c ≠ a1.toInt → cz h0 c y → fO h' y 7 = fO h0 y 7) ∧ (∃ y, NCz h' (fO h0 1 4) y (cf h0 z a2.toInt) (fO h0 z 1 + 30) ((fO h0 z 2 + 1) % 360) (fO h0 z 3) (fO h0 z 4) (if fO h0 z 5 = 0 then 0 else fO h0 z 5 - 1) a1.toInt) ∧ ∃ y, NCz h' ((fO h0 1 4) + 1) y (cf h0 z a2.toInt) (fO h0 z 1 - 30) ((fO h0 z 2 + 359) % 360) (fO h0 z 3) (fO h0 z 4) (if fO h0 z 5 = 0 then 0 else fO h0 z 5 - 1) a1.toInt)) → (imG (fO h' 1 4 = fO h0 1 4) (h' = h0)) → Q r h') : uCall Mt (d + 7) 154 [(.inr (.inr (some 0))), (.inl a1), (.inl a2)] h0 kc ks Q := by
  have l_m2000000000 : ((-2000000000) : Int32).toInt = -2000000000 := by decide
  have l_m60 : ((-60) : Int32).toInt = -60 := by decide
  have l_m5 : ((-5) : Int32).toInt = -5 := by decide
  have l_m3 : ((-3) : Int32).toInt = -3 := by decide
  have l_m2 : ((-2) : Int32).toInt = -2 := by decide
  have l_m1 : ((-1) : Int32).toInt = -1 := by decide
  have l_2 : ((2) : Int32).toInt = 2 := by decide
  have l_12 : ((12) : Int32).toInt = 12 := by decide
  have l_60 : ((60) : Int32).toInt = 60 := by decide
  refine uc_ink [some (.inr (.inr (some 0))), some (.inl a1), some (.inl a2), none] mt_154 (Nat.le_of_ble_eq_true rfl) rfl ?_
  obtain ⟨f2, f3, hc1, k4⟩ := ok_1 hO0
  have t5 := fO_of (k := 4) hc1 rfl
  refine ur_ldA rfl rfl ?_
  obtain ⟨hc6, k7⟩ := ok_0 hO0
  refine ur_get rfl hc6 rfl ?_
  refine ur_ldI rfl rfl ?_
  refine ur_inl rfl (rcv_of hc1) (Nat.le_of_ble_eq_true rfl) (Nat.le_of_ble_eq_true rfl) (sd_X6_cometAt hO0 _ pre0 (fun w8 hr9 => ?_))
  obtain ⟨o10, rfl, k11, t12, t13⟩ := hr9
  show uRun _ (uCall Mt _) _ 8 (_, [(.inr (.inr o10))], _, _, _)
  refine ur_svAk [some (.inr (.inr (some 0))), some (.inl a1), some (.inl a2), some (.inr (.inr o10))] rfl rfl ?_
  refine ur_ldA rfl rfl ?_
  cases o10 with
  | none =>
    refine ur_nulN rfl ?_
    have t15 := t12 rfl
    refine ur_push rfl ?_
    exact ur_ret rfl rfl (hQ _ _ ⟨_, rfl, ⟨fun _ => ⟨by omega, by omega⟩, fun q => by exfalso; omega⟩⟩ hO0 un.rf (by omega) pre0 KCc.rf (fun q => by exfalso; omega) (fun _ => rfl))
  | some r14 =>
    refine ur_nulS rfl ?_
    have k16 := k11 _ rfl
    have t17 := t13 _ rfl
    refine ur_ldI rfl rfl ?_
    refine ur_callv rfl rfl (Nat.le_of_ble_eq_true rfl) (Nat.le_of_ble_eq_true rfl) rfl (sp_isRet _ _) ?_
    refine ur_neB rfl (fun c20 => ?_) (fun c20 => ?_)
    · have t21 := wi_toL c20 l_m60 l_60
      obtain ⟨g42, f23, f24, f25, f26, f27, f28, f29, f30, f31, f32, q33, q34, o35, q36, hc22, k37, k38, k39, k40, k41⟩ := hO0.comet k16.2
      have t43 := fO_of (k := 7) hc22 rfl
      have t44 := fO_of (k := 8) hc22 rfl
      have t45 := fO_of (k := 9) hc22 rfl
      refine ur_ldA rfl rfl ?_
      refine ur_ldI rfl rfl ?_
      refine ur_inl rfl (rcv_of hc22) (Nat.le_of_ble_eq_true rfl) (Nat.le_of_ble_eq_true rfl) (sd_X2_hasReturn hO0 g42 k16.2 _ (fun w46 hr47 => ?_))
      obtain ⟨b48, rfl, t49, t50⟩ := hr47
      show uRun _ (uCall Mt _) _ 27 (_, [(.inl (bi b48))], _, _, _)
      refine ur_neB rfl (fun c51 => ?_) (fun c51 => ?_)
      · have t52 := t49 c51
        clear t49 t50
        refine ur_ldA rfl rfl ?_
        refine ur_get rfl hc22 rfl ?_
        refine ur_push rfl ?_
        refine ur_if2 rfl (fun c53 => ?_) (fun c53 => ?_)
        · have t54 := eq_to c53
          refine ur_ldA rfl rfl ?_
          refine ur_get rfl hc6 rfl ?_
          refine ur_get rfl hc1 rfl ?_
          refine ur_push rfl ?_
          refine ur_binV rfl (fun x55 e56 => ?_)
          have z57 := any_r f3
          have t58 := ti_add e56 (by omega) (by omega)
          refine ur_push rfl ?_
          refine ur_if2 rfl (fun c59 => ?_) (fun c59 => ?_)
          · have t60 := le_to c59
            have hr61 : ∀ z, cz h0 a1.toInt z → fO h0 z 8 ≤ a2.toInt ∧ a2.toInt ≤ fO h0 z 9 := fun y w => by have e := cz_u t17.2 w; subst e; omega
            refine ur_ldA rfl rfl ?_
            refine ur_get rfl hc6 rfl ?_
            refine ur_ldI rfl rfl ?_
            refine ur_ldI rfl rfl ?_
            refine ur_inl rfl (rcv_of hc1) (Nat.le_of_ble_eq_true rfl) (Nat.le_of_ble_eq_true rfl) (sd_X6_breakComet hO0 _ _ (by show -60 ≤ a2.toInt ∧ a2.toInt ≤ 60; omega) pre0 (by omega) hr61 (by omega) (fun w62 h68 hr63 hO68 hv68 hp64 hp65 hp66 hp67 => ?_))
            have hu68 := hv68
            obtain ⟨x69, rfl, t70⟩ := hr63
            show uRun _ (uCall Mt _) _ 71 (_, [(.inl x69)], _, _, _)
            obtain ⟨f72, f73, hc71, k74⟩ := ok_1 hO68
            have t75 := fO_of (k := 4) hc71 rfl
            exact ur_ret rfl rfl (hQ _ _ ⟨_, rfl, ⟨fun q => absurd (by omega) q, fun _ => ⟨r14, t17.2, fun q => absurd q (by omega), fun _ => ⟨fun q => by exfalso; omega, fun _ => ⟨fun q => by exfalso; omega, fun _ => ⟨by omega, by omega⟩⟩⟩⟩⟩⟩ hO68 hu68 (by omega) hp65 hp66 (fun _ => hp67) (fun q => by exfalso; omega))
          · have t76 := le_no c59
            refine ur_push rfl ?_
            exact ur_ret rfl rfl (hQ _ _ ⟨_, rfl, ⟨fun q => absurd (by omega) q, fun _ => ⟨r14, t17.2, fun q => absurd q (by omega), fun _ => ⟨fun q => by exfalso; omega, fun _ => ⟨fun _ => ⟨by omega, by omega⟩, fun q => by exfalso; omega⟩⟩⟩⟩⟩ hO0 un.rf (by omega) pre0 KCc.rf (fun q => by exfalso; omega) (fun _ => rfl))
        · have t77 := eq_no c53
          refine ur_push rfl ?_
          exact ur_ret rfl rfl (hQ _ _ ⟨_, rfl, ⟨fun q => absurd (by omega) q, fun _ => ⟨r14, t17.2, fun q => absurd q (by omega), fun _ => ⟨fun _ => ⟨by omega, by omega⟩, fun q => by exfalso; omega⟩⟩⟩⟩ hO0 un.rf (by omega) pre0 KCc.rf (fun q => by exfalso; omega) (fun _ => rfl))
      · have t78 := t50 c51
        clear t49 t50
        refine ur_push rfl ?_
        exact ur_ret rfl rfl (hQ _ _ ⟨_, rfl, ⟨fun q => absurd (by omega) q, fun _ => ⟨r14, t17.2, fun _ => ⟨by omega, by omega⟩, fun q => by exfalso; omega⟩⟩⟩ hO0 un.rf (by omega) pre0 KCc.rf (fun q => by exfalso; omega) (fun _ => rfl))
    · have t79 := wi_noL c20 l_m60 l_60
      refine ur_push rfl ?_
      exact ur_ret rfl rfl (hQ _ _ ⟨_, rfl, ⟨fun _ => ⟨by omega, by omega⟩, fun q => by exfalso; omega⟩⟩ hO0 un.rf (by omega) pre0 KCc.rf (fun q => by exfalso; omega) (fun _ => rfl))
end SKY5
