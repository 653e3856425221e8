/-! CONTRACTS of the reference, the eighth part, printed by program -/
section CU2
set_option maxRecDepth 20000 in
set_option maxHeartbeats 4000000 in
theorem sf_X12_wrong {d kc ks : Nat} {h0 : aH} {Q : Option aV → aH → Prop} (hO0 : OK h0)  (hQ : ∀ r h', (r = none) → OK h' → un [] h0 h' → (fI h' 19 = fI h0 19 ∧ fI h' 20 = fI h0 20 ∧ fI h' 22 = fI h0 22 ∧ fI h' 23 = fI h0 23) → (0 ≤ fI h0 21 ∧ fI h' 21 = fI h0 21 ∨ fI h0 21 < 0 ∧ fI h' 21 = fI h0 20) → Q r h') : uCall Mt (d + 1) 214 [(.inr (.inr (some 69)))] h0 kc ks Q := by
  have l_0 : ((0) : Int32).toInt = 0 := by decide
  refine uc_ink [some (.inr (.inr (some 69)))] mt_214 (Nat.le_of_ble_eq_true rfl) rfl ?_
  obtain ⟨fs1, hc2⟩ := hO0.mod
  obtain ⟨f3, p4, t5⟩ := mf_19 hO0 hc2
  have t6 := fI_of hc2 p4
  obtain ⟨f7, p8⟩ := mf_20 hO0 hc2
  have t9 := fI_of hc2 p8
  obtain ⟨f10, p11⟩ := mf_21 hO0 hc2
  have t12 := fI_of hc2 p11
  obtain ⟨f13, p14⟩ := mf_22 hO0 hc2
  have t15 := fI_of hc2 p14
  obtain ⟨f16, p17, t18⟩ := mf_23 hO0 hc2
  have t19 := fI_of hc2 p17
  refine ur_ldA rfl rfl ?_
  refine ur_get rfl hc2 p11 ?_
  refine ur_if1 rfl (fun c20 => ?_) (fun c20 => ?_)
  · have t21 := le_to c20
    exact ur_ret0 rfl (hQ _ _ rfl hO0 un.rf (by omega) (by omega))
  · have t22 := le_no c20
    refine ur_ldA rfl rfl ?_
    refine ur_ldA rfl rfl ?_
    refine ur_get rfl hc2 p8 ?_
    refine ur_putM (W := []) rfl hO0 hc2 (by decide) rfl (ms_21 (hO0.msh hc2)) (Or.inl rfl) (fun h24 hO24 hv24 d23 hc25 => ?_)
    have hu24 : un [] h0 h24 := hv24.mono (by decide)
    have t26 := fI_of hc25 (gs_ne p4 (by decide))
    have t27 := fI_of hc25 (gs_ne p8 (by decide))
    have t28 := fI_of hc25 (gs_eq p11)
    have t29 := fI_of hc25 (gs_ne p14 (by decide))
    have t30 := fI_of hc25 (gs_ne p17 (by decide))
    exact ur_ret0 rfl (hQ _ _ rfl hO24 hu24 (by omega) (by omega))

set_option maxRecDepth 20000 in
set_option maxHeartbeats 4000000 in
theorem sf_X12_lay {d kc ks : Nat} {h0 : aH} {Q : Option aV → aH → Prop} (hO0 : OK h0) (a1 : Int32) (b1 : 1 ≤ a1.toInt ∧ a1.toInt ≤ 124) (a2 : Int32) (pre0 : fI h0 23 ≤ 129) (hQ : ∀ r h', (r = none) → OK h' → un [83, 84] h0 h' → (fI h' 19 = fI h0 19 ∧ fI h' 20 = fI h0 20 ∧ fI h' 21 = fI h0 21 ∧ fI h' 22 = fI h0 22 ∧ fI h' 23 = fI h0 23 + 1) → (kp h0 h' (iL h0)) → (sA h' (iL h0) a1.toInt a2) → Q r h') : uCall Mt (d + 1) 215 [(.inr (.inr (some 69))), (.inl a1), (.inl a2)] h0 kc ks Q := by
  have l_1 : ((1) : Int32).toInt = 1 := by decide
  have l_1430 : ((1430) : Int32).toInt = 1430 := by decide
  refine uc_ink [some (.inr (.inr (some 69))), some (.inl a1), some (.inl a2)] mt_215 (Nat.le_of_ble_eq_true rfl) rfl ?_
  obtain ⟨fs1, hc2⟩ := hO0.mod
  obtain ⟨f3, p4, t5⟩ := mf_19 hO0 hc2
  have t6 := fI_of hc2 p4
  obtain ⟨f7, p8⟩ := mf_20 hO0 hc2
  have t9 := fI_of hc2 p8
  obtain ⟨f10, p11⟩ := mf_21 hO0 hc2
  have t12 := fI_of hc2 p11
  obtain ⟨f13, p14⟩ := mf_22 hO0 hc2
  have t15 := fI_of hc2 p14
  obtain ⟨f16, p17, t18⟩ := mf_23 hO0 hc2
  have t19 := fI_of hc2 p17
  obtain ⟨xs21, hc20, hn22, he23⟩ := hO0.byt (hO0.fix 83 (by decide) rfl)
  obtain ⟨xs25, hc24, hn26, he27⟩ := hO0.int (hO0.fix 84 (by decide) rfl)
  refine ur_ldA rfl rfl ?_
  refine ur_get rfl hc2 (mf_24 hO0 hc2) ?_
  refine ur_push rfl ?_
  refine ur_ldA rfl rfl ?_
  refine ur_get rfl hc2 p17 ?_
  refine ur_binV rfl (fun x28 e29 => ?_)
  have z30 := any_r f16
  have t31 := ti_add e29 (by omega) (by omega)
  refine ur_ldI rfl rfl ?_
  refine ur_unV rfl (fun x32 e33 => ?_)
  have t34 : x32.toInt = a1.toInt := by rw [← e33]; exact nar_b (by omega)
  refine ur_astV (W := [83]) (m := 1560) rfl hO0 hc20 (by decide) hn22 (by omega) (by show 0 ≤ (vp_nar .byte x32).toInt ∧ (vp_nar .byte x32).toInt ≤ 124; rw [nar_vb (by omega)]; omega) (Or.inr (Or.inr (wid_fix (by decide) (by decide)))) (fun h37 hO37 hv37 d35 hc36 => ?_)
  have hu37 : un [83, 84] h0 h37 := hv37.mono (by decide)
  refine ur_ldA rfl rfl ?_
  refine ur_get rfl ((d35 _ (by decide)).trans hc2) (mf_25 hO37 ((d35 _ (by decide)).trans hc2)) ?_
  refine ur_push rfl ?_
  refine ur_ldA rfl rfl ?_
  have t38 := fI_of ((d35 _ (by decide)).trans hc2) p17
  refine ur_get rfl ((d35 _ (by decide)).trans hc2) p17 ?_
  refine ur_binV rfl (fun x39 e40 => ?_)
  have t41 := ti_add e40 (by omega) (by omega)
  refine ur_ldI rfl rfl ?_
  refine ur_astV (W := [84]) (m := 1560) rfl hO37 ((d35 _ (by decide)).trans hc24) (by decide) hn26 (by omega) (any_r _) (Or.inr (Or.inr (wid_fix (by decide) (by decide)))) (fun h44 hO44 hv44 d42 hc43 => ?_)
  have hu44 : un [83, 84] h37 h44 := hv44.mono (by decide)
  refine ur_ldA rfl rfl ?_
  refine ur_dup rfl rfl ?_
  have t45 := fI_of ((d42 _ (by decide)).trans ((d35 _ (by decide)).trans hc2)) p17
  refine ur_get rfl ((d42 _ (by decide)).trans ((d35 _ (by decide)).trans hc2)) p17 ?_
  refine ur_push rfl ?_
  refine ur_binV rfl (fun x46 e47 => ?_)
  have t48 := ti_add e47 (by omega) (by omega)
  have t49 := fI_of ((d42 _ (by decide)).trans ((d35 _ (by decide)).trans hc2)) p4
  have t50 := fI_of ((d42 _ (by decide)).trans ((d35 _ (by decide)).trans hc2)) p8
  have t51 := fI_of ((d42 _ (by decide)).trans ((d35 _ (by decide)).trans hc2)) p11
  have t52 := fI_of ((d42 _ (by decide)).trans ((d35 _ (by decide)).trans hc2)) p14
  refine ur_putM (W := []) rfl hO44 ((d42 _ (by decide)).trans ((d35 _ (by decide)).trans hc2)) (by decide) rfl (ms_23 (hO44.msh ((d42 _ (by decide)).trans ((d35 _ (by decide)).trans hc2))) (show 0 ≤ x46.toInt ∧ x46.toInt ≤ 130 by omega)) (Or.inl rfl) (fun h54 hO54 hv54 d53 hc55 => ?_)
  have hu54 : un [83, 84] h44 h54 := hv54.mono (by decide)
  have t56 := fI_of hc55 (gs_ne p4 (by decide))
  have t57 := fI_of hc55 (gs_ne p8 (by decide))
  have t58 := fI_of hc55 (gs_ne p11 (by decide))
  have t59 := fI_of hc55 (gs_ne p14 (by decide))
  have t60 := fI_of hc55 (gs_eq p17)
  have t61 := fI_keep (k := 19) hO0 hO37 hv37 rfl (by decide)
  have t62 := fI_keep (k := 19) hO37 hO44 hv44 rfl (by decide)
  exact ur_ret0 rfl (hQ _ _ rfl hO54 (hu37.tr (hu44.tr hu54)) (by omega) (lay_kp hc20 ((d53 _ (by decide)).trans ((d42 _ (by decide)).trans hc36)) hc24 ((d53 _ (by decide)).trans hc43) (by unfold iL; omega) (by unfold iL; omega)) (lay_sA ((d53 _ (by decide)).trans ((d42 _ (by decide)).trans hc36)) ((d53 _ (by decide)).trans hc43) (by unfold iL; omega) (by unfold iL; omega) (by unfold iL; omega) (by unfold iL; omega) ((nar_vb (by omega)).trans (by omega))))

end CU2
