/-! THE READER OF THE REFERENCE, exactly; printed by program but for its head -/
section TRHc
set_option maxRecDepth 20000 in
set_option maxHeartbeats 4000000 in
theorem st_X12_both {d kc ks : Nat} {h0 : aH} {Q : Option aV → aH → Prop} {t : Int → Int} (n : Nat) (rec : ∀ {kc ks : Nat} {h0 : aH} {Q : Option aV → aH → Prop}, OK h0 → (tS h0 t) → (0 ≤ fI h0 20 ∧ fI h0 20 ≤ fI h0 19 ∧ fI h0 21 < 0 ∧ fI h0 23 ≤ fI h0 20) → (0 ≤ fI h0 22 ∧ fI h0 22 ≤ 6 ∧ 6 ≤ fI h0 22 + (n : Int)) → (∀ r h', (r = none) → OK h' → un [83, 84] h0 h' → (fI h0 20 ≤ fI h' 20 ∧ fI h' 20 ≤ fI h' 19 ∧ fI h' 19 = fI h0 19) → (fI h0 23 ≤ fI h' 23 ∧ fI h' 23 - fI h' 20 ≤ fI h0 23 - fI h0 20 + 1) → (fI h' 21 < 0 → fI h' 23 - fI h' 20 ≤ fI h0 23 - fI h0 20 ∧ fI h' 22 = fI h0 22 ∧ fI h0 23 < fI h' 23) → (kp h0 h' (iL h0)) → (fI h' 21 < 0 → bk h' (iL h0) (iL h')) → (ROt t 0 (fI h0 22) (fI h0 20) (tkR h0) (fI h' 21) (fI h' 22) (fI h' 20) (tkR h')) → (fI h' 21 ≤ fI h' 19) → Q r h') → uCall Mt (d + 4) 219 [(.inr (.inr (some 69)))] h0 kc ks Q) (hO0 : OK h0)  (pre0 : tS h0 t) (pre1 : 0 ≤ fI h0 20 ∧ fI h0 20 ≤ fI h0 19 ∧ fI h0 21 < 0 ∧ fI h0 23 ≤ fI h0 20) (pre2 : 0 ≤ fI h0 22 ∧ fI h0 22 ≤ 6 ∧ 6 ≤ fI h0 22 + (n : Int)) (hQ : ∀ r h', (r = none) → OK h' → un [83, 84] h0 h' → (fI h0 20 ≤ fI h' 20 ∧ fI h' 20 ≤ fI h' 19 ∧ fI h' 19 = fI h0 19) → (fI h0 23 ≤ fI h' 23 ∧ fI h' 23 - fI h' 20 ≤ fI h0 23 - fI h0 20 + 1) → (fI h' 21 < 0 → fI h' 23 - fI h' 20 ≤ fI h0 23 - fI h0 20 ∧ fI h' 22 = fI h0 22 ∧ fI h0 23 < fI h' 23) → (kp h0 h' (iL h0)) → (fI h' 21 < 0 → bk h' (iL h0) (iL h')) → (ROt t 4 (fI h0 22) (fI h0 20) (tkR h0) (fI h' 21) (fI h' 22) (fI h' 20) (tkR h')) → (fI h' 21 ≤ fI h' 19) → Q r h') : uCall Mt (d + 8) 223 [(.inr (.inr (some 69)))] h0 kc ks Q := by
  have l_0 : ((0) : Int32).toInt = 0 := by decide
  have l_1 : ((1) : Int32).toInt = 1 := by decide
  have l_38 : ((38) : Int32).toInt = 38 := by decide
  refine uc_ink [some (.inr (.inr (some 69)))] mt_223 (Nat.le_of_ble_eq_true rfl) rfl ?_
  obtain ⟨fs1, hc2⟩ := hO0.mod
  obtain ⟨f3, p4, t5⟩ := mf_19 hO0 hc2
  have t6 := fI_of hc2 p4
  obtain ⟨f7, p8⟩ := mf_20 hO0 hc2
  have t9 := fI_of hc2 p8
  obtain ⟨f10, p11⟩ := mf_21 hO0 hc2
  have t12 := fI_of hc2 p11
  obtain ⟨f13, p14⟩ := mf_22 hO0 hc2
  have t15 := fI_of hc2 p14
  obtain ⟨f16, p17, t18⟩ := mf_23 hO0 hc2
  have t19 := fI_of hc2 p17
  refine ur_ldA rfl rfl ?_
  refine ur_inl rfl (rcv_of hc2) (Nat.le_of_ble_eq_true rfl) (Nat.le_of_ble_eq_true rfl) (st_X12_compared n rec hO0 pre0 (by omega) (by omega) (fun w20 h29 hr21 hO29 hv29 hp22 hp23 hp24 hp25 hp26 hp27 hp28 => ?_))
  have hu29 := hv29
  subst hr21
  show uRun _ (uCall Mt _) _ 4 (_, [], _, _, _)
  obtain ⟨fs33, hc34⟩ := hO29.mod
  obtain ⟨f35, p36, t37⟩ := mf_19 hO29 hc34
  have t38 := fI_of hc34 p36
  obtain ⟨f39, p40⟩ := mf_20 hO29 hc34
  have t41 := fI_of hc34 p40
  obtain ⟨f42, p43⟩ := mf_21 hO29 hc34
  have t44 := fI_of hc34 p43
  obtain ⟨f45, p46⟩ := mf_22 hO29 hc34
  have t47 := fI_of hc34 p46
  obtain ⟨f48, p49, t50⟩ := mf_23 hO29 hc34
  have t51 := fI_of hc34 p49
  have L30 : ∀ (m31 : Nat)  (h52 : aH) , OK h52 → un [83, 84] h29 h52 → ((fI h0 20 ≤ fI h52 20 ∧ fI h52 20 ≤ fI h52 19 ∧ fI h52 19 = fI h0 19) ∧ (fI h0 23 ≤ fI h52 23 ∧ fI h52 23 - fI h52 20 ≤ fI h0 23 - fI h0 20 + 1) ∧ (fI h52 21 < 0 → fI h52 23 - fI h52 20 ≤ fI h0 23 - fI h0 20 ∧ fI h52 22 = fI h0 22 ∧ fI h0 23 < fI h52 23) ∧ (fI h52 21 ≤ fI h52 19)) → (kp h0 h52 (iL h0)) → (fI h52 21 < 0 → bk h52 (iL h0) (iL h52)) → (LOt t 4 (fI h0 22) (fI h0 20) (tkR h0) (fI h52 21) (fI h52 22) (fI h52 20) (tkR h52)) → ((121 - fI h52 20).toNat) < m31 → uRun oX12_both (uCall Mt (d + 7)) Q 4 ([some (.inr (.inr (some 69)))], [], h52, kc, ks) := by
    intro m31
    induction m31 with
    | zero => intro  h52 hO52 hu52 iv56 px53 px54 px55 mm57; omega
    | succ m31 ih32 =>
      intro  h52 hO52 hu52 iv56 px53 px54 px55 mm57
      obtain ⟨fs58, hc59⟩ := hO52.mod
      obtain ⟨f60, p61, t62⟩ := mf_19 hO52 hc59
      have t63 := fI_of hc59 p61
      obtain ⟨f64, p65⟩ := mf_20 hO52 hc59
      have t66 := fI_of hc59 p65
      obtain ⟨f67, p68⟩ := mf_21 hO52 hc59
      have t69 := fI_of hc59 p68
      obtain ⟨f70, p71⟩ := mf_22 hO52 hc59
      have t72 := fI_of hc59 p71
      obtain ⟨f73, p74, t75⟩ := mf_23 hO52 hc59
      have t76 := fI_of hc59 p74
      refine ur_ldA rfl rfl ?_
      refine ur_get rfl hc59 p68 ?_
      refine ur_if1 rfl (fun c77 => ?_) (fun c77 => ?_)
      · have t78 := le_to c77
        have t79 := fI_keep (k := 19) hO0 hO29 hv29 rfl (by decide)
        exact ur_ret0 rfl (hQ _ _ rfl hO52 (hu29.tr hu52) (by omega) (by omega) (by omega) px53 (fun q => (bk_cast (px54 (by omega)) (by unfold iL; omega) (by unfold iL; omega))) (LOt.done (LOt.cast px55 (by omega) rfl) (by decide) (by decide) (fun q => by omega)) (by omega))
      · have t80 := le_no c77
        refine ur_ldA rfl rfl ?_
        have t81 := fI_keep (k := 19) hO0 hO29 hv29 rfl (by decide)
        refine ur_inl rfl (rcv_of hc59) (Nat.le_of_ble_eq_true rfl) (Nat.le_of_ble_eq_true rfl) (st_X12_look hO52 ((pre0.un hO0 hO29 hv29 (by decide) (by decide)).un hO29 hO52 hu52 (by decide) (by decide)) (by omega) (fun w82 hr83 => ?_))
        obtain ⟨x84, rfl, t85⟩ := hr83
        show uRun _ (uCall Mt _) _ 15 (_, [(.inl x84)], _, _, _)
        refine ur_push rfl ?_
        refine ur_if2 rfl (fun c86 => ?_) (fun c86 => ?_)
        · have t87 := ne_to c86
          exact ur_ret0 rfl (hQ _ _ rfl hO52 (hu29.tr hu52) (by omega) (by omega) (by omega) px53 (fun q => (bk_cast (px54 (by omega)) (by unfold iL; omega) (by unfold iL; omega))) (LOt.done (LOt.cast px55 (by omega) rfl) (by decide) (by decide) (fun q => iop_no t85.1 (by unfold iop; omega))) (by omega))
        · have t88 := ne_no c86
          refine ur_ldA rfl rfl ?_
          refine ur_dup rfl rfl ?_
          refine ur_get rfl hc59 p65 ?_
          have t89 : 0 ≤ f64.toInt ∧ f64.toInt ≤ 120 := by omega
          refine ur_push rfl ?_
          refine ur_binV rfl (fun x90 e91 => ?_)
          have z92 := any_r f64
          have t93 := ti_add e91 (by omega) (by omega)
          refine ur_putM (W := []) rfl hO52 hc59 (by decide) rfl (ms_20 (hO52.msh hc59)) (Or.inl rfl) (fun h95 hO95 hv95 d94 hc96 => ?_)
          have hu95 : un [83, 84] h52 h95 := hv95.mono (by decide)
          have t97 := fI_of hc96 (gs_ne p61 (by decide))
          have t98 := fI_of hc96 (gs_eq p65)
          have t99 := fI_of hc96 (gs_ne p68 (by decide))
          have t100 := fI_of hc96 (gs_ne p71 (by decide))
          have t101 := fI_of hc96 (gs_ne p74 (by decide))
          refine ur_ldA rfl rfl ?_
          refine ur_inl rfl (rcv_of hc96) (Nat.le_of_ble_eq_true rfl) (Nat.le_of_ble_eq_true rfl) (st_X12_compared n rec hO95 (((pre0.un hO0 hO29 hv29 (by decide) (by decide)).un hO29 hO52 hu52 (by decide) (by decide)).un hO52 hO95 hv95 (by decide) (by decide)) (by omega) (by omega) (fun w102 h111 hr103 hO111 hv111 hp104 hp105 hp106 hp107 hp108 hp109 hp110 => ?_))
          have hu111 := hv111
          subst hr103
          show uRun _ (uCall Mt _) _ 34 (_, [], _, _, _)
          refine ur_ldA rfl rfl ?_
          refine ur_push rfl ?_
          refine ur_push rfl ?_
          obtain ⟨fs112, hc113⟩ := hO111.mod
          obtain ⟨f114, p115, t116⟩ := mf_19 hO111 hc113
          have t117 := fI_of hc113 p115
          obtain ⟨f118, p119⟩ := mf_20 hO111 hc113
          have t120 := fI_of hc113 p119
          obtain ⟨f121, p122⟩ := mf_21 hO111 hc113
          have t123 := fI_of hc113 p122
          obtain ⟨f124, p125⟩ := mf_22 hO111 hc113
          have t126 := fI_of hc113 p125
          obtain ⟨f127, p128, t129⟩ := mf_23 hO111 hc113
          have t130 := fI_of hc113 p128
          have t131 := fI_keep (k := 19) hO95 hO111 hv111 rfl (by decide)
          refine ur_inl rfl (rcv_of hc113) (Nat.le_of_ble_eq_true rfl) (Nat.le_of_ble_eq_true rfl) (sf_X12_lay hO111 _ (by show 1 ≤ (38 : Int32).toInt ∧ (38 : Int32).toInt ≤ 124; omega) _ (by omega) (fun w132 h137 hr133 hO137 hv137 hp134 hp135 hp136 => ?_))
          have hu137 := hv137
          subst hr133
          show uRun _ (uCall Mt _) _ 41 (_, [], _, _, _)
          refine ur_go rfl ?_
          obtain ⟨fs138, hc139⟩ := hO137.mod
          obtain ⟨f140, p141, t142⟩ := mf_19 hO137 hc139
          have t143 := fI_of hc139 p141
          obtain ⟨f144, p145⟩ := mf_20 hO137 hc139
          have t146 := fI_of hc139 p145
          obtain ⟨f147, p148⟩ := mf_21 hO137 hc139
          have t149 := fI_of hc139 p148
          obtain ⟨f150, p151⟩ := mf_22 hO137 hc139
          have t152 := fI_of hc139 p151
          obtain ⟨f153, p154, t155⟩ := mf_23 hO137 hc139
          have t156 := fI_of hc139 p154
          exact ih32  _ hO137 (hu52.tr (hu95.tr (hu111.tr hu137))) (by omega) (kp.tr (n := (iL h0)) (kp.tr (n := (iL h0)) (kp.tr (n := (iL h0)) px53 (kp_un hO52 hv95 (by decide) (by decide) (iL h0)) (Nat.le_refl _)) hp107 (by unfold iL; omega)) hp135 (by unfold iL; omega)) (fun q => (bk_cast (bk_bin (px54 (by omega)) (kp.tr (n := (iL h52)) (kp.tr (n := (iL h52)) kp.rf (kp_un hO52 hv95 (by decide) (by decide) (iL h52)) (Nat.le_refl _)) hp107 (by unfold iL; omega)) (hp108 (by omega)) (by unfold iL; omega) (kp.tr (n := (iL h111)) kp.rf hp135 (by unfold iL; omega)) hp136 (by unfold iL; omega) (by omega) rfl (by unfold iL; omega) (by unfold iL; omega)) (by unfold iL; omega) (by unfold iL; omega))) (LOt.op (c := 38) (f1 := fI h52 21) (o1 := fI h52 22) (p1 := fI h52 20) (LOt.cast px55 (by omega) rfl) (by omega) (tS.cl pre0 t85.1 (by omega) (by decide)) (by unfold iop; decide) (by decide) (by decide) (by decide) hp109 rfl (by omega) (by omega) (tkR_kp (kp_un hO52 hv95 (by decide) (by decide) (iL h52)) (by omega)) (tkR_2 (tkR_lay hp135 hp136 (by omega) (by omega)) rfl (by omega)) l_0 (by omega)) (by omega)
  exact L30 _  _ hO29 un.rf (by omega) (kp.tr (n := (iL h0)) kp.rf hp25 (by unfold iL; omega)) (fun q => (bk_cast (hp26 (by omega)) (by unfold iL; omega) (by unfold iL; omega))) (ROt.up hp27 rfl (by decide) (by decide)) (Nat.lt_succ_self _)

set_option maxRecDepth 20000 in
set_option maxHeartbeats 4000000 in
theorem st_X12_either {d kc ks : Nat} {h0 : aH} {Q : Option aV → aH → Prop} {t : Int → Int} (n : Nat) (rec : ∀ {kc ks : Nat} {h0 : aH} {Q : Option aV → aH → Prop}, OK h0 → (tS h0 t) → (0 ≤ fI h0 20 ∧ fI h0 20 ≤ fI h0 19 ∧ fI h0 21 < 0 ∧ fI h0 23 ≤ fI h0 20) → (0 ≤ fI h0 22 ∧ fI h0 22 ≤ 6 ∧ 6 ≤ fI h0 22 + (n : Int)) → (∀ r h', (r = none) → OK h' → un [83, 84] h0 h' → (fI h0 20 ≤ fI h' 20 ∧ fI h' 20 ≤ fI h' 19 ∧ fI h' 19 = fI h0 19) → (fI h0 23 ≤ fI h' 23 ∧ fI h' 23 - fI h' 20 ≤ fI h0 23 - fI h0 20 + 1) → (fI h' 21 < 0 → fI h' 23 - fI h' 20 ≤ fI h0 23 - fI h0 20 ∧ fI h' 22 = fI h0 22 ∧ fI h0 23 < fI h' 23) → (kp h0 h' (iL h0)) → (fI h' 21 < 0 → bk h' (iL h0) (iL h')) → (ROt t 0 (fI h0 22) (fI h0 20) (tkR h0) (fI h' 21) (fI h' 22) (fI h' 20) (tkR h')) → (fI h' 21 ≤ fI h' 19) → Q r h') → uCall Mt (d + 4) 219 [(.inr (.inr (some 69)))] h0 kc ks Q) (hO0 : OK h0)  (pre0 : tS h0 t) (pre1 : 0 ≤ fI h0 20 ∧ fI h0 20 ≤ fI h0 19 ∧ fI h0 21 < 0 ∧ fI h0 23 ≤ fI h0 20) (pre2 : 0 ≤ fI h0 22 ∧ fI h0 22 ≤ 6 ∧ 6 ≤ fI h0 22 + (n : Int)) (hQ : ∀ r h', (r = none) → OK h' → un [83, 84] h0 h' → (fI h0 20 ≤ fI h' 20 ∧ fI h' 20 ≤ fI h' 19 ∧ fI h' 19 = fI h0 19) → (fI h0 23 ≤ fI h' 23 ∧ fI h' 23 - fI h' 20 ≤ fI h0 23 - fI h0 20 + 1) → (fI h' 21 < 0 → fI h' 23 - fI h' 20 ≤ fI h0 23 - fI h0 20 ∧ fI h' 22 = fI h0 22 ∧ fI h0 23 < fI h' 23) → (kp h0 h' (iL h0)) → (fI h' 21 < 0 → bk h' (iL h0) (iL h')) → (ROt t 5 (fI h0 22) (fI h0 20) (tkR h0) (fI h' 21) (fI h' 22) (fI h' 20) (tkR h')) → (fI h' 21 ≤ fI h' 19) → Q r h') : uCall Mt (d + 9) 224 [(.inr (.inr (some 69)))] h0 kc ks Q := by
  have l_0 : ((0) : Int32).toInt = 0 := by decide
  have l_1 : ((1) : Int32).toInt = 1 := by decide
  have l_124 : ((124) : Int32).toInt = 124 := by decide
  refine uc_ink [some (.inr (.inr (some 69)))] mt_224 (Nat.le_of_ble_eq_true rfl) rfl ?_
  obtain ⟨fs1, hc2⟩ := hO0.mod
  obtain ⟨f3, p4, t5⟩ := mf_19 hO0 hc2
  have t6 := fI_of hc2 p4
  obtain ⟨f7, p8⟩ := mf_20 hO0 hc2
  have t9 := fI_of hc2 p8
  obtain ⟨f10, p11⟩ := mf_21 hO0 hc2
  have t12 := fI_of hc2 p11
  obtain ⟨f13, p14⟩ := mf_22 hO0 hc2
  have t15 := fI_of hc2 p14
  obtain ⟨f16, p17, t18⟩ := mf_23 hO0 hc2
  have t19 := fI_of hc2 p17
  refine ur_ldA rfl rfl ?_
  refine ur_inl rfl (rcv_of hc2) (Nat.le_of_ble_eq_true rfl) (Nat.le_of_ble_eq_true rfl) (st_X12_both n rec hO0 pre0 (by omega) (by omega) (fun w20 h29 hr21 hO29 hv29 hp22 hp23 hp24 hp25 hp26 hp27 hp28 => ?_))
  have hu29 := hv29
  subst hr21
  show uRun _ (uCall Mt _) _ 4 (_, [], _, _, _)
  obtain ⟨fs33, hc34⟩ := hO29.mod
  obtain ⟨f35, p36, t37⟩ := mf_19 hO29 hc34
  have t38 := fI_of hc34 p36
  obtain ⟨f39, p40⟩ := mf_20 hO29 hc34
  have t41 := fI_of hc34 p40
  obtain ⟨f42, p43⟩ := mf_21 hO29 hc34
  have t44 := fI_of hc34 p43
  obtain ⟨f45, p46⟩ := mf_22 hO29 hc34
  have t47 := fI_of hc34 p46
  obtain ⟨f48, p49, t50⟩ := mf_23 hO29 hc34
  have t51 := fI_of hc34 p49
  have L30 : ∀ (m31 : Nat)  (h52 : aH) , OK h52 → un [83, 84] h29 h52 → ((fI h0 20 ≤ fI h52 20 ∧ fI h52 20 ≤ fI h52 19 ∧ fI h52 19 = fI h0 19) ∧ (fI h0 23 ≤ fI h52 23 ∧ fI h52 23 - fI h52 20 ≤ fI h0 23 - fI h0 20 + 1) ∧ (fI h52 21 < 0 → fI h52 23 - fI h52 20 ≤ fI h0 23 - fI h0 20 ∧ fI h52 22 = fI h0 22 ∧ fI h0 23 < fI h52 23) ∧ (fI h52 21 ≤ fI h52 19)) → (kp h0 h52 (iL h0)) → (fI h52 21 < 0 → bk h52 (iL h0) (iL h52)) → (LOt t 5 (fI h0 22) (fI h0 20) (tkR h0) (fI h52 21) (fI h52 22) (fI h52 20) (tkR h52)) → ((121 - fI h52 20).toNat) < m31 → uRun oX12_either (uCall Mt (d + 8)) Q 4 ([some (.inr (.inr (some 69)))], [], h52, kc, ks) := by
    intro m31
    induction m31 with
    | zero => intro  h52 hO52 hu52 iv56 px53 px54 px55 mm57; omega
    | succ m31 ih32 =>
      intro  h52 hO52 hu52 iv56 px53 px54 px55 mm57
      obtain ⟨fs58, hc59⟩ := hO52.mod
      obtain ⟨f60, p61, t62⟩ := mf_19 hO52 hc59
      have t63 := fI_of hc59 p61
      obtain ⟨f64, p65⟩ := mf_20 hO52 hc59
      have t66 := fI_of hc59 p65
      obtain ⟨f67, p68⟩ := mf_21 hO52 hc59
      have t69 := fI_of hc59 p68
      obtain ⟨f70, p71⟩ := mf_22 hO52 hc59
      have t72 := fI_of hc59 p71
      obtain ⟨f73, p74, t75⟩ := mf_23 hO52 hc59
      have t76 := fI_of hc59 p74
      refine ur_ldA rfl rfl ?_
      refine ur_get rfl hc59 p68 ?_
      refine ur_if1 rfl (fun c77 => ?_) (fun c77 => ?_)
      · have t78 := le_to c77
        have t79 := fI_keep (k := 19) hO0 hO29 hv29 rfl (by decide)
        exact ur_ret0 rfl (hQ _ _ rfl hO52 (hu29.tr hu52) (by omega) (by omega) (by omega) px53 (fun q => (bk_cast (px54 (by omega)) (by unfold iL; omega) (by unfold iL; omega))) (LOt.done (LOt.cast px55 (by omega) rfl) (by decide) (by decide) (fun q => by omega)) (by omega))
      · have t80 := le_no c77
        refine ur_ldA rfl rfl ?_
        have t81 := fI_keep (k := 19) hO0 hO29 hv29 rfl (by decide)
        refine ur_inl rfl (rcv_of hc59) (Nat.le_of_ble_eq_true rfl) (Nat.le_of_ble_eq_true rfl) (st_X12_look hO52 ((pre0.un hO0 hO29 hv29 (by decide) (by decide)).un hO29 hO52 hu52 (by decide) (by decide)) (by omega) (fun w82 hr83 => ?_))
        obtain ⟨x84, rfl, t85⟩ := hr83
        show uRun _ (uCall Mt _) _ 15 (_, [(.inl x84)], _, _, _)
        refine ur_push rfl ?_
        refine ur_if2 rfl (fun c86 => ?_) (fun c86 => ?_)
        · have t87 := ne_to c86
          exact ur_ret0 rfl (hQ _ _ rfl hO52 (hu29.tr hu52) (by omega) (by omega) (by omega) px53 (fun q => (bk_cast (px54 (by omega)) (by unfold iL; omega) (by unfold iL; omega))) (LOt.done (LOt.cast px55 (by omega) rfl) (by decide) (by decide) (fun q => iop_no t85.1 (by unfold iop; omega))) (by omega))
        · have t88 := ne_no c86
          refine ur_ldA rfl rfl ?_
          refine ur_dup rfl rfl ?_
          refine ur_get rfl hc59 p65 ?_
          have t89 : 0 ≤ f64.toInt ∧ f64.toInt ≤ 120 := by omega
          refine ur_push rfl ?_
          refine ur_binV rfl (fun x90 e91 => ?_)
          have z92 := any_r f64
          have t93 := ti_add e91 (by omega) (by omega)
          refine ur_putM (W := []) rfl hO52 hc59 (by decide) rfl (ms_20 (hO52.msh hc59)) (Or.inl rfl) (fun h95 hO95 hv95 d94 hc96 => ?_)
          have hu95 : un [83, 84] h52 h95 := hv95.mono (by decide)
          have t97 := fI_of hc96 (gs_ne p61 (by decide))
          have t98 := fI_of hc96 (gs_eq p65)
          have t99 := fI_of hc96 (gs_ne p68 (by decide))
          have t100 := fI_of hc96 (gs_ne p71 (by decide))
          have t101 := fI_of hc96 (gs_ne p74 (by decide))
          refine ur_ldA rfl rfl ?_
          refine ur_inl rfl (rcv_of hc96) (Nat.le_of_ble_eq_true rfl) (Nat.le_of_ble_eq_true rfl) (st_X12_both n rec hO95 (((pre0.un hO0 hO29 hv29 (by decide) (by decide)).un hO29 hO52 hu52 (by decide) (by decide)).un hO52 hO95 hv95 (by decide) (by decide)) (by omega) (by omega) (fun w102 h111 hr103 hO111 hv111 hp104 hp105 hp106 hp107 hp108 hp109 hp110 => ?_))
          have hu111 := hv111
          subst hr103
          show uRun _ (uCall Mt _) _ 34 (_, [], _, _, _)
          refine ur_ldA rfl rfl ?_
          refine ur_push rfl ?_
          refine ur_push rfl ?_
          obtain ⟨fs112, hc113⟩ := hO111.mod
          obtain ⟨f114, p115, t116⟩ := mf_19 hO111 hc113
          have t117 := fI_of hc113 p115
          obtain ⟨f118, p119⟩ := mf_20 hO111 hc113
          have t120 := fI_of hc113 p119
          obtain ⟨f121, p122⟩ := mf_21 hO111 hc113
          have t123 := fI_of hc113 p122
          obtain ⟨f124, p125⟩ := mf_22 hO111 hc113
          have t126 := fI_of hc113 p125
          obtain ⟨f127, p128, t129⟩ := mf_23 hO111 hc113
          have t130 := fI_of hc113 p128
          have t131 := fI_keep (k := 19) hO95 hO111 hv111 rfl (by decide)
          refine ur_inl rfl (rcv_of hc113) (Nat.le_of_ble_eq_true rfl) (Nat.le_of_ble_eq_true rfl) (sf_X12_lay hO111 _ (by show 1 ≤ (124 : Int32).toInt ∧ (124 : Int32).toInt ≤ 124; omega) _ (by omega) (fun w132 h137 hr133 hO137 hv137 hp134 hp135 hp136 => ?_))
          have hu137 := hv137
          subst hr133
          show uRun _ (uCall Mt _) _ 41 (_, [], _, _, _)
          refine ur_go rfl ?_
          obtain ⟨fs138, hc139⟩ := hO137.mod
          obtain ⟨f140, p141, t142⟩ := mf_19 hO137 hc139
          have t143 := fI_of hc139 p141
          obtain ⟨f144, p145⟩ := mf_20 hO137 hc139
          have t146 := fI_of hc139 p145
          obtain ⟨f147, p148⟩ := mf_21 hO137 hc139
          have t149 := fI_of hc139 p148
          obtain ⟨f150, p151⟩ := mf_22 hO137 hc139
          have t152 := fI_of hc139 p151
          obtain ⟨f153, p154, t155⟩ := mf_23 hO137 hc139
          have t156 := fI_of hc139 p154
          exact ih32  _ hO137 (hu52.tr (hu95.tr (hu111.tr hu137))) (by omega) (kp.tr (n := (iL h0)) (kp.tr (n := (iL h0)) (kp.tr (n := (iL h0)) px53 (kp_un hO52 hv95 (by decide) (by decide) (iL h0)) (Nat.le_refl _)) hp107 (by unfold iL; omega)) hp135 (by unfold iL; omega)) (fun q => (bk_cast (bk_bin (px54 (by omega)) (kp.tr (n := (iL h52)) (kp.tr (n := (iL h52)) kp.rf (kp_un hO52 hv95 (by decide) (by decide) (iL h52)) (Nat.le_refl _)) hp107 (by unfold iL; omega)) (hp108 (by omega)) (by unfold iL; omega) (kp.tr (n := (iL h111)) kp.rf hp135 (by unfold iL; omega)) hp136 (by unfold iL; omega) (by omega) rfl (by unfold iL; omega) (by unfold iL; omega)) (by unfold iL; omega) (by unfold iL; omega))) (LOt.op (c := 124) (f1 := fI h52 21) (o1 := fI h52 22) (p1 := fI h52 20) (LOt.cast px55 (by omega) rfl) (by omega) (tS.cl pre0 t85.1 (by omega) (by decide)) (by unfold iop; decide) (by decide) (by decide) (by decide) hp109 rfl (by omega) (by omega) (tkR_kp (kp_un hO52 hv95 (by decide) (by decide) (iL h52)) (by omega)) (tkR_2 (tkR_lay hp135 hp136 (by omega) (by omega)) rfl (by omega)) l_0 (by omega)) (by omega)
  exact L30 _  _ hO29 un.rf (by omega) (kp.tr (n := (iL h0)) kp.rf hp25 (by unfold iL; omega)) (fun q => (bk_cast (hp26 (by omega)) (by unfold iL; omega) (by unfold iL; omega))) (ROt.up hp27 rfl (by decide) (by decide)) (Nat.lt_succ_self _)
end TRHc
