/-! CONTRACTS of the reference, the tenth part, printed by program -/
section CU4
set_option maxRecDepth 20000 in
set_option maxHeartbeats 4000000 in
theorem sf_X12_line {d kc ks : Nat} {h0 : aH} {Q : Option aV → aH → Prop} (hO0 : OK h0)  (pre0 : 0 ≤ fI h0 20 ∧ fI h0 20 ≤ fI h0 19 ∧ fI h0 21 < 0 ∧ fI h0 23 ≤ fI h0 20) (pre1 : 0 ≤ fI h0 22 ∧ fI h0 22 ≤ 6) (pre2 : 2 * lm h0 ≤ fI h0 20) (pre3 : TX h0) (pre4 : TL h0) (hQ : ∀ r h', (r = none) → OK h' → un [83, 84, 85, 86, 87] h0 h' → (fI h0 20 ≤ fI h' 20 ∧ fI h' 20 ≤ fI h' 19 ∧ fI h' 19 = fI h0 19 ∧ lm h' = lm h0 + 1 ∧ 1 ≤ lm h' ∧ lm h' ≤ 61) → (fI h' 21 < 0 → fI h' 23 ≤ fI h' 20 ∧ fI h0 20 + 1 ≤ fI h' 20 ∧ fI h' 22 = fI h0 22) → (TX h') → (fI h' 21 < 0 → TL h') → Q r h') : uCall Mt (d + 46) 225 [(.inr (.inr (some 69)))] h0 kc ks Q := by
  have l_0 : ((0) : Int32).toInt = 0 := by decide
  have l_1 : ((1) : Int32).toInt = 1 := by decide
  have l_11 : ((11) : Int32).toInt = 11 := by decide
  have l_63 : ((63) : Int32).toInt = 63 := by decide
  have l_671 : ((671) : Int32).toInt = 671 := by decide
  refine uc_ink [some (.inr (.inr (some 69))), none] mt_225 (Nat.le_of_ble_eq_true rfl) rfl ?_
  obtain ⟨fs1, hc2⟩ := hO0.mod
  obtain ⟨f3, p4, t5⟩ := mf_19 hO0 hc2
  have t6 := fI_of hc2 p4
  obtain ⟨f7, p8⟩ := mf_20 hO0 hc2
  have t9 := fI_of hc2 p8
  obtain ⟨f10, p11⟩ := mf_21 hO0 hc2
  have t12 := fI_of hc2 p11
  obtain ⟨f13, p14⟩ := mf_22 hO0 hc2
  have t15 := fI_of hc2 p14
  obtain ⟨f16, p17, t18⟩ := mf_23 hO0 hc2
  have t19 := fI_of hc2 p17
  obtain ⟨xs21, hc20, hn22, he23⟩ := hO0.int (hO0.fix 85 (by decide) rfl)
  obtain ⟨xs25, hc24, hn26, he27⟩ := hO0.sho (hO0.fix 86 (by decide) rfl)
  obtain ⟨xs29, hc28, hn30, he31⟩ := hO0.sho (hO0.fix 87 (by decide) rfl)
  refine ur_push rfl ?_
  refine ur_ldA rfl rfl ?_
  refine ur_get rfl hc2 (mf_26 hO0 hc2) ?_
  refine ur_push rfl ?_
  refine ur_aldV rfl hc20 hn22 (by omega) (fun x32 hx33 => ?_)
  have t34 : 0 ≤ x32.toInt ∧ x32.toInt ≤ 61 := he23 _ _ hx33
  have t35 := lm_of hc20 hx33
  refine ur_binV rfl (fun x36 e37 => ?_)
  have z38 := any_r x32
  have t39 := ti_add e37 (by omega) (by omega)
  refine ur_svIk [some (.inr (.inr (some 69))), some (.inl x36)] rfl rfl ?_
  refine ur_ldA rfl rfl ?_
  refine ur_get rfl hc2 (mf_27 hO0 hc2) ?_
  refine ur_ldI rfl rfl ?_
  refine ur_ldA rfl rfl ?_
  refine ur_get rfl hc2 p17 ?_
  refine ur_unV rfl (fun x40 e41 => ?_)
  have t42 : x40.toInt = f16.toInt := by rw [← e41]; exact nar_s (by omega)
  have t45 : (vp_nar .short x40).toInt = x40.toInt := nar_vs (by omega)
  refine ur_astV (W := [86]) (m := 732) rfl hO0 hc24 (by decide) hn26 (by omega) (by show 0 ≤ (vp_nar .short x40).toInt ∧ (vp_nar .short x40).toInt ≤ 130; rw [nar_vs (by omega)]; omega) (Or.inr (Or.inr (wid_fix (by decide) (by decide)))) (fun h46 hO46 hv46 d43 hc44 => ?_)
  have hu46 : un [83, 84, 85, 86, 87] h0 h46 := hv46.mono (by decide)
  refine ur_ldA rfl rfl ?_
  have t47 := fI_of ((d43 _ (by decide)).trans hc2) p4
  have t48 := fI_of ((d43 _ (by decide)).trans hc2) p8
  have t49 := fI_of ((d43 _ (by decide)).trans hc2) p11
  have t50 := fI_of ((d43 _ (by decide)).trans hc2) p14
  have t51 := fI_of ((d43 _ (by decide)).trans hc2) p17
  have t52 := fI_keep (k := 19) hO0 hO46 hv46 rfl (by decide)
  refine ur_inl rfl (rcv_of ((d43 _ (by decide)).trans hc2)) (Nat.le_of_ble_eq_true rfl) (Nat.le_of_ble_eq_true rfl) (sf_X12_rE hO46 (by omega) (by omega) (fun w53 h60 hr54 hO60 hv60 hp55 hp56 hp57 hp58 hp59 => ?_))
  have hu60 : un [83, 84, 85, 86, 87] h46 h60 := hv60.mono (by decide)
  subst hr54
  show uRun _ (uCall Mt _) _ 27 (_, [], _, _, _)
  obtain ⟨fs61, hc62⟩ := hO60.mod
  obtain ⟨f63, p64, t65⟩ := mf_19 hO60 hc62
  have t66 := fI_of hc62 p64
  obtain ⟨f67, p68⟩ := mf_20 hO60 hc62
  have t69 := fI_of hc62 p68
  obtain ⟨f70, p71⟩ := mf_21 hO60 hc62
  have t72 := fI_of hc62 p71
  obtain ⟨f73, p74⟩ := mf_22 hO60 hc62
  have t75 := fI_of hc62 p74
  obtain ⟨f76, p77, t78⟩ := mf_23 hO60 hc62
  have t79 := fI_of hc62 p77
  refine ur_ldA rfl rfl ?_
  refine ur_get rfl hc62 p71 ?_
  refine ur_if1 rfl (fun c80 => ?_) (fun c80 => ?_)
  · have t81 := le_to c80
    refine ur_ldA rfl rfl ?_
    refine ur_get rfl hc62 (mf_28 hO60 hc62) ?_
    refine ur_ldI rfl rfl ?_
    refine ur_ldA rfl rfl ?_
    refine ur_get rfl hc62 p77 ?_
    refine ur_unV rfl (fun x82 e83 => ?_)
    have t84 : x82.toInt = f76.toInt := by rw [← e83]; exact nar_s (by omega)
    have t87 : (vp_nar .short x82).toInt = x82.toInt := nar_vs (by omega)
    refine ur_astV (W := [87]) (m := 732) rfl hO60 (hv60.ka (n := 732) ((d43 _ (by decide)).trans hc28) hn30 rfl (by decide) (wid_f (by decide)) (by decide)) (by decide) hn30 (by omega) (by show 0 ≤ (vp_nar .short x82).toInt ∧ (vp_nar .short x82).toInt ≤ 130; rw [nar_vs (by omega)]; omega) (Or.inr (Or.inr (wid_fix (by decide) (by decide)))) (fun h88 hO88 hv88 d85 hc86 => ?_)
    have hu88 : un [83, 84, 85, 86, 87] h60 h88 := hv88.mono (by decide)
    refine ur_ldA rfl rfl ?_
    refine ur_get rfl ((d85 _ (by decide)).trans hc62) (mf_26 hO88 ((d85 _ (by decide)).trans hc62)) ?_
    refine ur_push rfl ?_
    refine ur_dup2 rfl rfl rfl ?_
    refine ur_aldV rfl ((d85 _ (by decide)).trans (hv60.ka (n := 12) ((d43 _ (by decide)).trans hc20) hn22 rfl (by decide) (wid_f (by decide)) (by decide))) hn22 (by omega) (fun x89 hx90 => ?_)
    obtain rfl : x32 = x89 := Option.some.inj (hx33.symm.trans hx90)
    refine ur_push rfl ?_
    refine ur_binV rfl (fun x91 e92 => ?_)
    have t93 := ti_add e92 (by omega) (by omega)
    refine ur_astV (W := [85]) (m := 12) rfl hO88 ((d85 _ (by decide)).trans (hv60.ka (n := 12) ((d43 _ (by decide)).trans hc20) hn22 rfl (by decide) (wid_f (by decide)) (by decide))) (by decide) hn22 (by omega) (by show 0 ≤ x91.toInt ∧ x91.toInt ≤ 61; omega) (Or.inr (Or.inr (wid_fix (by decide) (by decide)))) (fun h96 hO96 hv96 d94 hc95 => ?_)
    have hu96 : un [83, 84, 85, 86, 87] h88 h96 := hv96.mono (by decide)
    have t97 := lm_set hc95 (by omega) (by omega)
    have t98 := fI_of ((d94 _ (by decide)).trans ((d85 _ (by decide)).trans hc62)) p64
    have t99 := fI_of ((d94 _ (by decide)).trans ((d85 _ (by decide)).trans hc62)) p68
    have t100 := fI_of ((d94 _ (by decide)).trans ((d85 _ (by decide)).trans hc62)) p71
    have t101 := fI_of ((d94 _ (by decide)).trans ((d85 _ (by decide)).trans hc62)) p74
    have t102 := fI_of ((d94 _ (by decide)).trans ((d85 _ (by decide)).trans hc62)) p77
    have t103 := fI_keep (k := 19) hO46 hO60 hv60 rfl (by decide)
    have t104 := fI_keep (k := 19) hO60 hO88 hv88 rfl (by decide)
    have t105 := fI_keep (k := 19) hO88 hO96 hv96 rfl (by decide)
    exact ur_ret0 rfl (hQ _ _ rfl hO96 (hu46.tr (hu60.tr (hu88.tr hu96))) (by omega) (by omega) (TX.keep pre3 hO0 (kp.tr (n := 1430) (kp.tr (n := 1430) (kp.tr (n := 1430) (kp.tr (n := 1430) kp.rf (kp_un hO0 hv46 (by decide) (by decide) 1430) (Nat.le_refl _)) hp58 (by unfold iL; omega)) (kp_un hO60 hv88 (by decide) (by decide) 1430) (Nat.le_refl _)) (kp_un hO88 hv96 (by decide) (by decide) 1430) (Nat.le_refl _)) (kq_of hc24 ((d94 _ (by decide)).trans ((d85 _ (by decide)).trans (hv60.ka (n := 732) hc44 ((List.length_set ..).trans hn26) rfl (by decide) (wid_f (by decide)) (by decide)))) hc28 ((d94 _ (by decide)).trans hc86) (fun i hi => by first | (rw [List.getElem?_set_ne (by omega), List.getElem?_set_ne (by omega)]; done) | (rw [List.getElem?_set_ne (by omega)]; done)) (fun i hi => by first | (rw [List.getElem?_set_ne (by omega), List.getElem?_set_ne (by omega)]; done) | (rw [List.getElem?_set_ne (by omega)]; done))) (km_of hc20 hc95 (fun i hi => by first | (rw [List.getElem?_set_ne (by omega), List.getElem?_set_ne (by omega)]; done) | (rw [List.getElem?_set_ne (by omega)]; done)))) (fun q => by first | exact absurd q (by omega) | exact TL.of (line_ends (n := (lm h0).toNat) (L0 := (fI h0 23).toNat) pre4.1 pre4.2 (kp.tr (n := (1430 + (fI h0 23).toNat)) (kp.tr (n := (1430 + (fI h0 23).toNat)) (kp.tr (n := (1430 + (fI h0 23).toNat)) (kp.tr (n := (1430 + (fI h0 23).toNat)) kp.rf (kp_un hO0 hv46 (by decide) (by decide) (1430 + (fI h0 23).toNat)) (Nat.le_refl _)) hp58 (by unfold iL; omega)) (kp_un hO60 hv88 (by decide) (by decide) (1430 + (fI h0 23).toNat)) (Nat.le_refl _)) (kp_un hO88 hv96 (by decide) (by decide) (1430 + (fI h0 23).toNat)) (Nat.le_refl _)) (kq_of hc24 ((d94 _ (by decide)).trans ((d85 _ (by decide)).trans (hv60.ka (n := 732) hc44 ((List.length_set ..).trans hn26) rfl (by decide) (wid_f (by decide)) (by decide)))) hc28 ((d94 _ (by decide)).trans hc86) (fun i hi => by first | (rw [List.getElem?_set_ne (by omega), List.getElem?_set_ne (by omega)]; done) | (rw [List.getElem?_set_ne (by omega)]; done)) (fun i hi => by first | (rw [List.getElem?_set_ne (by omega), List.getElem?_set_ne (by omega)]; done) | (rw [List.getElem?_set_ne (by omega)]; done))) (gd_set ((d94 _ (by decide)).trans ((d85 _ (by decide)).trans (hv60.ka (n := 732) hc44 ((List.length_set ..).trans hn26) rfl (by decide) (wid_f (by decide)) (by decide)))) (by omega) (by first | omega | (rw [List.length_set]; omega))) (gd_set ((d94 _ (by decide)).trans hc86) (by omega) (by first | omega | (rw [List.length_set]; omega))) (by unfold iN; omega) (by unfold iN; omega) (by unfold iN; omega) (fun q => (q (by unfold iN; omega)).elim) (bk_cast ((hp59 (by omega)).keep (kp.tr (n := (iL h60)) (kp.tr (n := (iL h60)) kp.rf (kp_un hO60 hv88 (by decide) (by decide) (iL h60)) (Nat.le_refl _)) (kp_un hO88 hv96 (by decide) (by decide) (iL h60)) (Nat.le_refl _))) (by unfold iL; (try unfold iN); omega) (by unfold iL iN; omega))) (by omega) (by omega)))
  · have t106 := le_no c80
    refine ur_ldA rfl rfl ?_
    have t107 := fI_keep (k := 19) hO46 hO60 hv60 rfl (by decide)
    refine ur_inl rfl (rcv_of hc62) (Nat.le_of_ble_eq_true rfl) (Nat.le_of_ble_eq_true rfl) (sf_X12_look hO60 (by omega) (fun w108 hr109 => ?_))
    obtain ⟨x110, rfl, t111⟩ := hr109
    show uRun _ (uCall Mt _) _ 38 (_, [(.inl x110)], _, _, _)
    refine ur_push rfl ?_
    refine ur_if2 rfl (fun c112 => ?_) (fun c112 => ?_)
    · have t113 := ne_to c112
      refine ur_ldA rfl rfl ?_
      refine ur_get rfl hc62 (mf_28 hO60 hc62) ?_
      refine ur_ldI rfl rfl ?_
      refine ur_ldA rfl rfl ?_
      refine ur_get rfl hc62 p77 ?_
      refine ur_unV rfl (fun x114 e115 => ?_)
      have t116 : x114.toInt = f76.toInt := by rw [← e115]; exact nar_s (by omega)
      have t119 : (vp_nar .short x114).toInt = x114.toInt := nar_vs (by omega)
      refine ur_astV (W := [87]) (m := 732) rfl hO60 (hv60.ka (n := 732) ((d43 _ (by decide)).trans hc28) hn30 rfl (by decide) (wid_f (by decide)) (by decide)) (by decide) hn30 (by omega) (by show 0 ≤ (vp_nar .short x114).toInt ∧ (vp_nar .short x114).toInt ≤ 130; rw [nar_vs (by omega)]; omega) (Or.inr (Or.inr (wid_fix (by decide) (by decide)))) (fun h120 hO120 hv120 d117 hc118 => ?_)
      have hu120 : un [83, 84, 85, 86, 87] h60 h120 := hv120.mono (by decide)
      refine ur_ldA rfl rfl ?_
      refine ur_get rfl ((d117 _ (by decide)).trans hc62) (mf_26 hO120 ((d117 _ (by decide)).trans hc62)) ?_
      refine ur_push rfl ?_
      refine ur_dup2 rfl rfl rfl ?_
      refine ur_aldV rfl ((d117 _ (by decide)).trans (hv60.ka (n := 12) ((d43 _ (by decide)).trans hc20) hn22 rfl (by decide) (wid_f (by decide)) (by decide))) hn22 (by omega) (fun x121 hx122 => ?_)
      obtain rfl : x32 = x121 := Option.some.inj (hx33.symm.trans hx122)
      refine ur_push rfl ?_
      refine ur_binV rfl (fun x123 e124 => ?_)
      have t125 := ti_add e124 (by omega) (by omega)
      refine ur_astV (W := [85]) (m := 12) rfl hO120 ((d117 _ (by decide)).trans (hv60.ka (n := 12) ((d43 _ (by decide)).trans hc20) hn22 rfl (by decide) (wid_f (by decide)) (by decide))) (by decide) hn22 (by omega) (by show 0 ≤ x123.toInt ∧ x123.toInt ≤ 61; omega) (Or.inr (Or.inr (wid_fix (by decide) (by decide)))) (fun h128 hO128 hv128 d126 hc127 => ?_)
      have hu128 : un [83, 84, 85, 86, 87] h120 h128 := hv128.mono (by decide)
      have t129 := lm_set hc127 (by omega) (by omega)
      have hc130 := ((d126 _ (by decide)).trans ((d117 _ (by decide)).trans hc62))
      have t131 := fI_of hc130 p64
      have t132 := fI_of hc130 p68
      have t133 := fI_of hc130 p71
      have t134 := fI_of hc130 p74
      have t135 := fI_of hc130 p77
      have t136 := fI_keep (k := 19) hO60 hO120 hv120 rfl (by decide)
      have t137 := fI_keep (k := 19) hO120 hO128 hv128 rfl (by decide)
      exact ur_ret0 rfl (hQ _ _ rfl hO128 (hu46.tr (hu60.tr (hu120.tr hu128))) (by omega) (by omega) (TX.keep pre3 hO0 (kp.tr (n := 1430) (kp.tr (n := 1430) (kp.tr (n := 1430) (kp.tr (n := 1430) kp.rf (kp_un hO0 hv46 (by decide) (by decide) 1430) (Nat.le_refl _)) hp58 (by unfold iL; omega)) (kp_un hO60 hv120 (by decide) (by decide) 1430) (Nat.le_refl _)) (kp_un hO120 hv128 (by decide) (by decide) 1430) (Nat.le_refl _)) (kq_of hc24 ((d126 _ (by decide)).trans ((d117 _ (by decide)).trans (hv60.ka (n := 732) hc44 ((List.length_set ..).trans hn26) rfl (by decide) (wid_f (by decide)) (by decide)))) hc28 ((d126 _ (by decide)).trans hc118) (fun i hi => by first | (rw [List.getElem?_set_ne (by omega), List.getElem?_set_ne (by omega)]; done) | (rw [List.getElem?_set_ne (by omega)]; done)) (fun i hi => by first | (rw [List.getElem?_set_ne (by omega), List.getElem?_set_ne (by omega)]; done) | (rw [List.getElem?_set_ne (by omega)]; done))) (km_of hc20 hc127 (fun i hi => by first | (rw [List.getElem?_set_ne (by omega), List.getElem?_set_ne (by omega)]; done) | (rw [List.getElem?_set_ne (by omega)]; done)))) (fun q => by first | exact absurd q (by omega) | exact TL.of (line_ends (n := (lm h0).toNat) (L0 := (fI h0 23).toNat) pre4.1 pre4.2 (kp.tr (n := (1430 + (fI h0 23).toNat)) (kp.tr (n := (1430 + (fI h0 23).toNat)) (kp.tr (n := (1430 + (fI h0 23).toNat)) (kp.tr (n := (1430 + (fI h0 23).toNat)) kp.rf (kp_un hO0 hv46 (by decide) (by decide) (1430 + (fI h0 23).toNat)) (Nat.le_refl _)) hp58 (by unfold iL; omega)) (kp_un hO60 hv120 (by decide) (by decide) (1430 + (fI h0 23).toNat)) (Nat.le_refl _)) (kp_un hO120 hv128 (by decide) (by decide) (1430 + (fI h0 23).toNat)) (Nat.le_refl _)) (kq_of hc24 ((d126 _ (by decide)).trans ((d117 _ (by decide)).trans (hv60.ka (n := 732) hc44 ((List.length_set ..).trans hn26) rfl (by decide) (wid_f (by decide)) (by decide)))) hc28 ((d126 _ (by decide)).trans hc118) (fun i hi => by first | (rw [List.getElem?_set_ne (by omega), List.getElem?_set_ne (by omega)]; done) | (rw [List.getElem?_set_ne (by omega)]; done)) (fun i hi => by first | (rw [List.getElem?_set_ne (by omega), List.getElem?_set_ne (by omega)]; done) | (rw [List.getElem?_set_ne (by omega)]; done))) (gd_set ((d126 _ (by decide)).trans ((d117 _ (by decide)).trans (hv60.ka (n := 732) hc44 ((List.length_set ..).trans hn26) rfl (by decide) (wid_f (by decide)) (by decide)))) (by omega) (by first | omega | (rw [List.length_set]; omega))) (gd_set ((d126 _ (by decide)).trans hc118) (by omega) (by first | omega | (rw [List.length_set]; omega))) (by unfold iN; omega) (by unfold iN; omega) (by unfold iN; omega) (fun q => (q (by unfold iN; omega)).elim) (bk_cast ((hp59 (by omega)).keep (kp.tr (n := (iL h60)) (kp.tr (n := (iL h60)) kp.rf (kp_un hO60 hv120 (by decide) (by decide) (iL h60)) (Nat.le_refl _)) (kp_un hO120 hv128 (by decide) (by decide) (iL h60)) (Nat.le_refl _))) (by unfold iL; (try unfold iN); omega) (by unfold iL iN; omega))) (by omega) (by omega)))
    · have t138 := ne_no c112
      refine ur_ldA rfl rfl ?_
      refine ur_dup rfl rfl ?_
      refine ur_get rfl hc62 p68 ?_
      have t139 : 0 ≤ f67.toInt ∧ f67.toInt ≤ 120 := by omega
      refine ur_push rfl ?_
      refine ur_binV rfl (fun x140 e141 => ?_)
      have z142 := any_r f67
      have t143 := ti_add e141 (by omega) (by omega)
      refine ur_putM (W := []) rfl hO60 hc62 (by decide) rfl (ms_20 (hO60.msh hc62)) (Or.inl rfl) (fun h145 hO145 hv145 d144 hc146 => ?_)
      have hu145 : un [83, 84, 85, 86, 87] h60 h145 := hv145.mono (by decide)
      have t147 := fI_of hc146 (gs_ne (k := 20) (v := .inl x140) p64 (by decide))
      have t148 := fI_of hc146 (gs_eq (v := .inl x140) p68)
      have t149 := fI_of hc146 (gs_ne (k := 20) (v := .inl x140) p71 (by decide))
      have t150 := fI_of hc146 (gs_ne (k := 20) (v := .inl x140) p74 (by decide))
      have t151 := fI_of hc146 (gs_ne (k := 20) (v := .inl x140) p77 (by decide))
      refine ur_ldA rfl rfl ?_
      refine ur_get rfl hc146 (mf_27 hO145 hc146) ?_
      refine ur_ldI rfl rfl ?_
      refine ur_ldA rfl rfl ?_
      refine ur_get rfl hc146 (gs_ne (k := 20) (v := .inl x140) p77 (by decide)) ?_
      refine ur_unV rfl (fun x152 e153 => ?_)
      have t154 : x152.toInt = f76.toInt := by rw [← e153]; exact nar_s (by omega)
      have t157 : (vp_nar .short x152).toInt = x152.toInt := nar_vs (by omega)
      refine ur_astV (W := [86]) (m := 732) rfl hO145 ((d144 _ (by decide)).trans (hv60.ka (n := 732) hc44 ((List.length_set ..).trans hn26) rfl (by decide) (wid_f (by decide)) (by decide))) (by decide) ((List.length_set ..).trans hn26) (by omega) (by show 0 ≤ (vp_nar .short x152).toInt ∧ (vp_nar .short x152).toInt ≤ 130; rw [nar_vs (by omega)]; omega) (Or.inr (Or.inr (wid_fix (by decide) (by decide)))) (fun h158 hO158 hv158 d155 hc156 => ?_)
      have hu158 : un [83, 84, 85, 86, 87] h145 h158 := hv158.mono (by decide)
      refine ur_ldA rfl rfl ?_
      have t159 := fI_of ((d155 _ (by decide)).trans hc146) (gs_ne (k := 20) (v := .inl x140) p64 (by decide))
      have t160 := fI_of ((d155 _ (by decide)).trans hc146) (gs_eq (v := .inl x140) p68)
      have t161 := fI_of ((d155 _ (by decide)).trans hc146) (gs_ne (k := 20) (v := .inl x140) p71 (by decide))
      have t162 := fI_of ((d155 _ (by decide)).trans hc146) (gs_ne (k := 20) (v := .inl x140) p74 (by decide))
      have t163 := fI_of ((d155 _ (by decide)).trans hc146) (gs_ne (k := 20) (v := .inl x140) p77 (by decide))
      have t164 := fI_keep (k := 19) hO145 hO158 hv158 rfl (by decide)
      refine ur_inl rfl (rcv_of ((d155 _ (by decide)).trans hc146)) (Nat.le_of_ble_eq_true rfl) (Nat.le_of_ble_eq_true rfl) (sf_X12_rE hO158 (by omega) (by omega) (fun w165 h172 hr166 hO172 hv172 hp167 hp168 hp169 hp170 hp171 => ?_))
      have hu172 : un [83, 84, 85, 86, 87] h158 h172 := hv172.mono (by decide)
      subst hr166
      show uRun _ (uCall Mt _) _ 68 (_, [], _, _, _)
      obtain ⟨fs173, hc174⟩ := hO172.mod
      obtain ⟨f175, p176, t177⟩ := mf_19 hO172 hc174
      have t178 := fI_of hc174 p176
      obtain ⟨f179, p180⟩ := mf_20 hO172 hc174
      have t181 := fI_of hc174 p180
      obtain ⟨f182, p183⟩ := mf_21 hO172 hc174
      have t184 := fI_of hc174 p183
      obtain ⟨f185, p186⟩ := mf_22 hO172 hc174
      have t187 := fI_of hc174 p186
      obtain ⟨f188, p189, t190⟩ := mf_23 hO172 hc174
      have t191 := fI_of hc174 p189
      refine ur_ldA rfl rfl ?_
      refine ur_get rfl hc174 (mf_28 hO172 hc174) ?_
      refine ur_ldI rfl rfl ?_
      refine ur_ldA rfl rfl ?_
      refine ur_get rfl hc174 p189 ?_
      refine ur_unV rfl (fun x192 e193 => ?_)
      have t194 : x192.toInt = f188.toInt := by rw [← e193]; exact nar_s (by omega)
      have hc195 := (hv172.ka (n := 732) ((d155 _ (by decide)).trans ((d144 _ (by decide)).trans (hv60.ka (n := 732) ((d43 _ (by decide)).trans hc28) hn30 rfl (by decide) (wid_f (by decide)) (by decide)))) hn30 rfl (by decide) (wid_f (by decide)) (by decide))
      have t198 : (vp_nar .short x192).toInt = x192.toInt := nar_vs (by omega)
      refine ur_astV (W := [87]) (m := 732) rfl hO172 hc195 (by decide) hn30 (by omega) (by show 0 ≤ (vp_nar .short x192).toInt ∧ (vp_nar .short x192).toInt ≤ 130; rw [nar_vs (by omega)]; omega) (Or.inr (Or.inr (wid_fix (by decide) (by decide)))) (fun h199 hO199 hv199 d196 hc197 => ?_)
      have hu199 : un [83, 84, 85, 86, 87] h172 h199 := hv199.mono (by decide)
      refine ur_ldA rfl rfl ?_
      refine ur_get rfl ((d196 _ (by decide)).trans hc174) (mf_26 hO199 ((d196 _ (by decide)).trans hc174)) ?_
      refine ur_push rfl ?_
      refine ur_dup2 rfl rfl rfl ?_
      have hc200 := ((d196 _ (by decide)).trans (hv172.ka (n := 12) ((d155 _ (by decide)).trans ((d144 _ (by decide)).trans (hv60.ka (n := 12) ((d43 _ (by decide)).trans hc20) hn22 rfl (by decide) (wid_f (by decide)) (by decide)))) hn22 rfl (by decide) (wid_f (by decide)) (by decide)))
      refine ur_aldV rfl hc200 hn22 (by omega) (fun x201 hx202 => ?_)
      obtain rfl : x32 = x201 := Option.some.inj (hx33.symm.trans hx202)
      refine ur_push rfl ?_
      refine ur_binV rfl (fun x203 e204 => ?_)
      have t205 := ti_add e204 (by omega) (by omega)
      refine ur_astV (W := [85]) (m := 12) rfl hO199 hc200 (by decide) hn22 (by omega) (by show 0 ≤ x203.toInt ∧ x203.toInt ≤ 61; omega) (Or.inr (Or.inr (wid_fix (by decide) (by decide)))) (fun h208 hO208 hv208 d206 hc207 => ?_)
      have hu208 : un [83, 84, 85, 86, 87] h199 h208 := hv208.mono (by decide)
      have t209 := lm_set hc207 (by omega) (by omega)
      have hc210 := ((d206 _ (by decide)).trans ((d196 _ (by decide)).trans hc174))
      have t211 := fI_of hc210 p176
      have t212 := fI_of hc210 p180
      have t213 := fI_of hc210 p183
      have t214 := fI_of hc210 p186
      have t215 := fI_of hc210 p189
      have t216 := fI_keep (k := 19) hO158 hO172 hv172 rfl (by decide)
      have t217 := fI_keep (k := 19) hO172 hO199 hv199 rfl (by decide)
      have t218 := fI_keep (k := 19) hO199 hO208 hv208 rfl (by decide)
      exact ur_ret0 rfl (hQ _ _ rfl hO208 (hu46.tr (hu60.tr (hu145.tr (hu158.tr (hu172.tr (hu199.tr hu208)))))) (by omega) (by omega) (TX.keep pre3 hO0 (kp.tr (n := 1430) (kp.tr (n := 1430) (kp.tr (n := 1430) (kp.tr (n := 1430) (kp.tr (n := 1430) (kp.tr (n := 1430) (kp.tr (n := 1430) kp.rf (kp_un hO0 hv46 (by decide) (by decide) 1430) (Nat.le_refl _)) hp58 (by unfold iL; omega)) (kp_un hO60 hv145 (by decide) (by decide) 1430) (Nat.le_refl _)) (kp_un hO145 hv158 (by decide) (by decide) 1430) (Nat.le_refl _)) hp170 (by unfold iL; omega)) (kp_un hO172 hv199 (by decide) (by decide) 1430) (Nat.le_refl _)) (kp_un hO199 hv208 (by decide) (by decide) 1430) (Nat.le_refl _)) (kq_of hc24 ((d206 _ (by decide)).trans ((d196 _ (by decide)).trans (hv172.ka (n := 732) hc156 ((List.length_set ..).trans ((List.length_set ..).trans hn26)) rfl (by decide) (wid_f (by decide)) (by decide)))) hc28 ((d206 _ (by decide)).trans hc197) (fun i hi => by first | (rw [List.getElem?_set_ne (by omega), List.getElem?_set_ne (by omega)]; done) | (rw [List.getElem?_set_ne (by omega)]; done)) (fun i hi => by first | (rw [List.getElem?_set_ne (by omega), List.getElem?_set_ne (by omega)]; done) | (rw [List.getElem?_set_ne (by omega)]; done))) (km_of hc20 hc207 (fun i hi => by first | (rw [List.getElem?_set_ne (by omega), List.getElem?_set_ne (by omega)]; done) | (rw [List.getElem?_set_ne (by omega)]; done)))) (fun q => by first | exact absurd q (by omega) | exact TL.of (line_ends (n := (lm h0).toNat) (L0 := (fI h0 23).toNat) pre4.1 pre4.2 (kp.tr (n := (1430 + (fI h0 23).toNat)) (kp.tr (n := (1430 + (fI h0 23).toNat)) (kp.tr (n := (1430 + (fI h0 23).toNat)) (kp.tr (n := (1430 + (fI h0 23).toNat)) (kp.tr (n := (1430 + (fI h0 23).toNat)) (kp.tr (n := (1430 + (fI h0 23).toNat)) (kp.tr (n := (1430 + (fI h0 23).toNat)) kp.rf (kp_un hO0 hv46 (by decide) (by decide) (1430 + (fI h0 23).toNat)) (Nat.le_refl _)) hp58 (by unfold iL; omega)) (kp_un hO60 hv145 (by decide) (by decide) (1430 + (fI h0 23).toNat)) (Nat.le_refl _)) (kp_un hO145 hv158 (by decide) (by decide) (1430 + (fI h0 23).toNat)) (Nat.le_refl _)) hp170 (by unfold iL; omega)) (kp_un hO172 hv199 (by decide) (by decide) (1430 + (fI h0 23).toNat)) (Nat.le_refl _)) (kp_un hO199 hv208 (by decide) (by decide) (1430 + (fI h0 23).toNat)) (Nat.le_refl _)) (kq_of hc24 ((d206 _ (by decide)).trans ((d196 _ (by decide)).trans (hv172.ka (n := 732) hc156 ((List.length_set ..).trans ((List.length_set ..).trans hn26)) rfl (by decide) (wid_f (by decide)) (by decide)))) hc28 ((d206 _ (by decide)).trans hc197) (fun i hi => by first | (rw [List.getElem?_set_ne (by omega), List.getElem?_set_ne (by omega)]; done) | (rw [List.getElem?_set_ne (by omega)]; done)) (fun i hi => by first | (rw [List.getElem?_set_ne (by omega), List.getElem?_set_ne (by omega)]; done) | (rw [List.getElem?_set_ne (by omega)]; done))) (gd_set ((d206 _ (by decide)).trans ((d196 _ (by decide)).trans (hv172.ka (n := 732) hc156 ((List.length_set ..).trans ((List.length_set ..).trans hn26)) rfl (by decide) (wid_f (by decide)) (by decide)))) (by omega) (by first | omega | (rw [List.length_set]; omega))) (gd_set ((d206 _ (by decide)).trans hc197) (by omega) (by first | omega | (rw [List.length_set]; omega))) (by unfold iN; omega) (by unfold iN; omega) (by unfold iN; omega) (fun _ => (bk_cast ((hp59 (by omega)).keep (kp.tr (n := (iL h60)) (kp.tr (n := (iL h60)) (kp.tr (n := (iL h60)) (kp.tr (n := (iL h60)) (kp.tr (n := (iL h60)) kp.rf (kp_un hO60 hv145 (by decide) (by decide) (iL h60)) (Nat.le_refl _)) (kp_un hO145 hv158 (by decide) (by decide) (iL h60)) (Nat.le_refl _)) hp170 (by unfold iL; omega)) (kp_un hO172 hv199 (by decide) (by decide) (iL h60)) (Nat.le_refl _)) (kp_un hO199 hv208 (by decide) (by decide) (iL h60)) (Nat.le_refl _))) (by unfold iL; (try unfold iN); omega) (by unfold iL iN; omega))) (bk_cast ((hp171 (by omega)).keep (kp.tr (n := (iL h172)) (kp.tr (n := (iL h172)) kp.rf (kp_un hO172 hv199 (by decide) (by decide) (iL h172)) (Nat.le_refl _)) (kp_un hO199 hv208 (by decide) (by decide) (iL h172)) (Nat.le_refl _))) (by unfold iL; (try unfold iN); omega) (by unfold iL iN; omega))) (by omega) (by omega)))
end CU4
