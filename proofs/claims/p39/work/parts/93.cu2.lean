/-! CONTRACTS of the reference, the eighth part, printed by program -/
section CU2
set_option maxRecDepth 20000 in
set_option maxHeartbeats 4000000 in
theorem sf_X12_wrong {d kc ks : Nat} {h0 : aH} {Q : Option aV → aH → Prop} (hO0 : OK h0)  (hQ : ∀ r h', (r = none) → OK h' → un [] h0 h' → (fI h' 19 = fI h0 19 ∧ fI h' 20 = fI h0 20 ∧ fI h' 22 = fI h0 22 ∧ fI h' 23 = fI h0 23) → (0 ≤ fI h0 21 ∧ fI h' 21 = fI h0 21 ∨ fI h0 21 < 0 ∧ fI h' 21 = fI h0 20) → Q r h') : uCall Mt (d + 1) 214 [(.inr (.inr (some 69)))] h0 kc ks Q := by
  have l_0 : ((0) : Int32).toInt = 0 := by decide
  refine uc_ink [some (.inr (.inr (some 69)))] mt_214 (Nat.le_of_ble_eq_true rfl) rfl ?_
  obtain ⟨fs1, hc2⟩ := hO0.mod
  obtain ⟨f3, p4, t5⟩ := mf_19 hO0 hc2
  have t6 := fI_of hc2 p4
  obtain ⟨f7, p8⟩ := mf_20 hO0 hc2
  have t9 := fI_of hc2 p8
  obtain ⟨f10, p11⟩ := mf_21 hO0 hc2
  have t12 := fI_of hc2 p11
  obtain ⟨f13, p14⟩ := mf_22 hO0 hc2
  have t15 := fI_of hc2 p14
  obtain ⟨f16, p17, t18⟩ := mf_23 hO0 hc2
  have t19 := fI_of hc2 p17
  refine ur_ldA rfl rfl ?_
  refine ur_get rfl hc2 p11 ?_
  refine ur_if1 rfl (fun c20 => ?_) (fun c20 => ?_)
  · have t21 := le_to c20
    exact ur_ret0 rfl (hQ _ _ rfl hO0 un.rf (by omega) (by omega))
  · have t22 := le_no c20
    refine ur_ldA rfl rfl ?_
    refine ur_ldA rfl rfl ?_
    refine ur_get rfl hc2 p8 ?_
    refine ur_putM (W := []) rfl hO0 hc2 (by decide) rfl (ms_21 (hO0.msh hc2)) (Or.inl rfl) (fun h24 hO24 hv24 d23 hc25 => ?_)
    have hu24 : un [] h0 h24 := hv24.mono (by decide)
    have t26 := fI_of hc25 (gs_ne p4 (by decide))
    have t27 := fI_of hc25 (gs_ne p8 (by decide))
    have t28 := fI_of hc25 (gs_eq p11)
    have t29 := fI_of hc25 (gs_ne p14 (by decide))
    have t30 := fI_of hc25 (gs_ne p17 (by decide))
    exact ur_ret0 rfl (hQ _ _ rfl hO24 hu24 (by omega) (by omega))

set_option maxRecDepth 20000 in
set_option maxHeartbeats 4000000 in
theorem sf_X12_look {d kc ks : Nat} {h0 : aH} {Q : Option aV → aH → Prop} (hO0 : OK h0)  (pre0 : 0 ≤ fI h0 20) (hQ : ∀ r, (∃ x : Int32, r = some (.inl x) ∧ (x.toInt = lkV h0 ∧ (x.toInt = -1 ∨ fI h0 20 < fI h0 19))) → Q r h0) : uCall Mt (d + 1) 213 [(.inr (.inr (some 69)))] h0 kc ks Q := by
  have l_m1 : ((-1) : Int32).toInt = -1 := by decide
  refine uc_ink [some (.inr (.inr (some 69)))] mt_213 (Nat.le_of_ble_eq_true rfl) rfl ?_
  obtain ⟨fs1, hc2⟩ := hO0.mod
  obtain ⟨f3, p4, t5⟩ := mf_19 hO0 hc2
  have t6 := fI_of hc2 p4
  obtain ⟨f7, p8⟩ := mf_20 hO0 hc2
  have t9 := fI_of hc2 p8
  refine ur_ldA rfl rfl ?_
  refine ur_get rfl hc2 p8 ?_
  refine ur_ldA rfl rfl ?_
  refine ur_get rfl hc2 p4 ?_
  have z10 := any_r f7
  have z11 := any_r f3
  refine ur_if2 rfl (fun c12 => ?_) (fun c12 => ?_)
  · have t13 := le_to c12
    have t14 := lkV_no (h := h0) (by omega)
    refine ur_push rfl ?_
    exact ur_ret rfl rfl (hQ _ ⟨_, rfl, by omega⟩ )
  · have t15 := le_no c12
    refine ur_ldA rfl rfl ?_
    refine ur_get rfl hc2 (mf_18 hO0 hc2) ?_
    refine ur_ldA rfl rfl ?_
    refine ur_get rfl hc2 p8 ?_
    obtain ⟨xs17, hc16, hn18, he19⟩ := hO0.byt (hO0.fix 82 (by decide) rfl)
    refine ur_aldV rfl hc16 hn18 (by omega) (fun x20 hx21 => ?_)
    have t22 := lkV_of (j := f7) hc16 hx21 (by omega) (by omega)
    refine ur_go rfl ?_
    exact ur_ret rfl rfl (hQ _ ⟨_, rfl, by omega⟩ )

set_option maxRecDepth 20000 in
set_option maxHeartbeats 4000000 in
theorem sf_X12_lay {d kc ks : Nat} {h0 : aH} {Q : Option aV → aH → Prop} (hO0 : OK h0) (a1 : Int32) (b1 : 1 ≤ a1.toInt ∧ a1.toInt ≤ 124) (a2 : Int32) (pre0 : fI h0 23 ≤ 129) (hQ : ∀ r h', (r = none) → OK h' → un [83, 84] h0 h' → (fI h' 19 = fI h0 19 ∧ fI h' 20 = fI h0 20 ∧ fI h' 21 = fI h0 21 ∧ fI h' 22 = fI h0 22 ∧ fI h' 23 = fI h0 23 + 1) → (kp h0 h' (iL h0)) → (sA h' (iL h0) a1.toInt a2) → Q r h') : uCall Mt (d + 1) 215 [(.inr (.inr (some 69))), (.inl a1), (.inl a2)] h0 kc ks Q := by
  have l_1 : ((1) : Int32).toInt = 1 := by decide
  have l_1430 : ((1430) : Int32).toInt = 1430 := by decide
  refine uc_ink [some (.inr (.inr (some 69))), some (.inl a1), some (.inl a2)] mt_215 (Nat.le_of_ble_eq_true rfl) rfl ?_
  obtain ⟨fs1, hc2⟩ := hO0.mod
  obtain ⟨f3, p4, t5⟩ := mf_19 hO0 hc2
  have t6 := fI_of hc2 p4
  obtain ⟨f7, p8⟩ := mf_20 hO0 hc2
  have t9 := fI_of hc2 p8
  obtain ⟨f10, p11⟩ := mf_21 hO0 hc2
  have t12 := fI_of hc2 p11
  obtain ⟨f13, p14⟩ := mf_22 hO0 hc2
  have t15 := fI_of hc2 p14
  obtain ⟨f16, p17, t18⟩ := mf_23 hO0 hc2
  have t19 := fI_of hc2 p17
  obtain ⟨xs21, hc20, hn22, he23⟩ := hO0.byt (hO0.fix 83 (by decide) rfl)
  obtain ⟨xs25, hc24, hn26, he27⟩ := hO0.int (hO0.fix 84 (by decide) rfl)
  refine ur_ldA rfl rfl ?_
  refine ur_get rfl hc2 (mf_24 hO0 hc2) ?_
  refine ur_push rfl ?_
  refine ur_ldA rfl rfl ?_
  refine ur_get rfl hc2 p17 ?_
  refine ur_binV rfl (fun x28 e29 => ?_)
  have z30 := any_r f16
  have t31 := ti_add e29 (by omega) (by omega)
  refine ur_ldI rfl rfl ?_
  refine ur_unV rfl (fun x32 e33 => ?_)
  have t34 : x32.toInt = a1.toInt := by rw [← e33]; exact nar_b (by omega)
  refine ur_astV (W := [83]) (m := 1560) rfl hO0 hc20 (by decide) hn22 (by omega) (by show 0 ≤ (vp_nar .byte x32).toInt ∧ (vp_nar .byte x32).toInt ≤ 124; rw [nar_vb (by omega)]; omega) (Or.inr (Or.inr (wid_fix (by decide) (by decide)))) (fun h37 hO37 hv37 d35 hc36 => ?_)
  have hu37 : un [83, 84] h0 h37 := hv37.mono (by decide)
  refine ur_ldA rfl rfl ?_
  refine ur_get rfl ((d35 _ (by decide)).trans hc2) (mf_25 hO37 ((d35 _ (by decide)).trans hc2)) ?_
  refine ur_push rfl ?_
  refine ur_ldA rfl rfl ?_
  have t38 := fI_of ((d35 _ (by decide)).trans hc2) p17
  refine ur_get rfl ((d35 _ (by decide)).trans hc2) p17 ?_
  refine ur_binV rfl (fun x39 e40 => ?_)
  have t41 := ti_add e40 (by omega) (by omega)
  refine ur_ldI rfl rfl ?_
  refine ur_astV (W := [84]) (m := 1560) rfl hO37 ((d35 _ (by decide)).trans hc24) (by decide) hn26 (by omega) (any_r _) (Or.inr (Or.inr (wid_fix (by decide) (by decide)))) (fun h44 hO44 hv44 d42 hc43 => ?_)
  have hu44 : un [83, 84] h37 h44 := hv44.mono (by decide)
  refine ur_ldA rfl rfl ?_
  refine ur_dup rfl rfl ?_
  have t45 := fI_of ((d42 _ (by decide)).trans ((d35 _ (by decide)).trans hc2)) p17
  refine ur_get rfl ((d42 _ (by decide)).trans ((d35 _ (by decide)).trans hc2)) p17 ?_
  refine ur_push rfl ?_
  refine ur_binV rfl (fun x46 e47 => ?_)
  have t48 := ti_add e47 (by omega) (by omega)
  have t49 := fI_of ((d42 _ (by decide)).trans ((d35 _ (by decide)).trans hc2)) p4
  have t50 := fI_of ((d42 _ (by decide)).trans ((d35 _ (by decide)).trans hc2)) p8
  have t51 := fI_of ((d42 _ (by decide)).trans ((d35 _ (by decide)).trans hc2)) p11
  have t52 := fI_of ((d42 _ (by decide)).trans ((d35 _ (by decide)).trans hc2)) p14
  refine ur_putM (W := []) rfl hO44 ((d42 _ (by decide)).trans ((d35 _ (by decide)).trans hc2)) (by decide) rfl (ms_23 (hO44.msh ((d42 _ (by decide)).trans ((d35 _ (by decide)).trans hc2))) (show 0 ≤ x46.toInt ∧ x46.toInt ≤ 130 by omega)) (Or.inl rfl) (fun h54 hO54 hv54 d53 hc55 => ?_)
  have hu54 : un [83, 84] h44 h54 := hv54.mono (by decide)
  have t56 := fI_of hc55 (gs_ne p4 (by decide))
  have t57 := fI_of hc55 (gs_ne p8 (by decide))
  have t58 := fI_of hc55 (gs_ne p11 (by decide))
  have t59 := fI_of hc55 (gs_ne p14 (by decide))
  have t60 := fI_of hc55 (gs_eq p17)
  have t61 := fI_keep (k := 19) hO0 hO37 hv37 rfl (by decide)
  have t62 := fI_keep (k := 19) hO37 hO44 hv44 rfl (by decide)
  exact ur_ret0 rfl (hQ _ _ rfl hO54 (hu37.tr (hu44.tr hu54)) (by omega) (lay_kp hc20 ((d53 _ (by decide)).trans ((d42 _ (by decide)).trans hc36)) hc24 ((d53 _ (by decide)).trans hc43) (by unfold iL; omega) (by unfold iL; omega)) (lay_sA ((d53 _ (by decide)).trans ((d42 _ (by decide)).trans hc36)) ((d53 _ (by decide)).trans hc43) (by unfold iL; omega) (by unfold iL; omega) (by unfold iL; omega) (by unfold iL; omega) ((nar_vb (by omega)).trans (by omega))))

set_option maxRecDepth 20000 in
set_option maxHeartbeats 4000000 in
theorem sg_nameOf {d kc ks : Nat} {h0 : aH} {Q : Option aV → aH → Prop} (a0 : Int32) (hQ : ∀ r, (∃ x : Int32, r = some (.inl x) ∧ (-1 ≤ x.toInt ∧ x.toInt ≤ 9 ∧ (0 ≤ x.toInt → a0.toInt = 115 ∨ a0.toInt = 113 ∨ a0.toInt = 98 ∨ a0.toInt = 103 ∨ a0.toInt = 101 ∨ a0.toInt = 100 ∨ a0.toInt = 112 ∨ a0.toInt = 121 ∨ a0.toInt = 109 ∨ a0.toInt = 114) ∧ ((a0.toInt = 115 ∨ a0.toInt = 113 ∨ a0.toInt = 98 ∨ a0.toInt = 103 ∨ a0.toInt = 101 ∨ a0.toInt = 100 ∨ a0.toInt = 112 ∨ a0.toInt = 121 ∨ a0.toInt = 109 ∨ a0.toInt = 114) → 0 ≤ x.toInt))) → Q r h0) : uCall Mt (d + 1) 216 [(.inl a0)] h0 kc ks Q := by
  have l_m1 : ((-1) : Int32).toInt = -1 := by decide
  have l_0 : ((0) : Int32).toInt = 0 := by decide
  have l_1 : ((1) : Int32).toInt = 1 := by decide
  have l_2 : ((2) : Int32).toInt = 2 := by decide
  have l_3 : ((3) : Int32).toInt = 3 := by decide
  have l_4 : ((4) : Int32).toInt = 4 := by decide
  have l_5 : ((5) : Int32).toInt = 5 := by decide
  have l_6 : ((6) : Int32).toInt = 6 := by decide
  have l_7 : ((7) : Int32).toInt = 7 := by decide
  have l_8 : ((8) : Int32).toInt = 8 := by decide
  have l_9 : ((9) : Int32).toInt = 9 := by decide
  refine uc_ink [some (.inl a0)] mt_216 (Nat.le_of_ble_eq_true rfl) rfl ?_
  refine ur_ldI rfl rfl ?_
  rcases (show (a0.toInt < 98 ∨ 121 < a0.toInt) ∨ a0.toInt = 98 ∨ a0.toInt = 99 ∨ a0.toInt = 100 ∨ a0.toInt = 101 ∨ a0.toInt = 102 ∨ a0.toInt = 103 ∨ a0.toInt = 104 ∨ a0.toInt = 105 ∨ a0.toInt = 106 ∨ a0.toInt = 107 ∨ a0.toInt = 108 ∨ a0.toInt = 109 ∨ a0.toInt = 110 ∨ a0.toInt = 111 ∨ a0.toInt = 112 ∨ a0.toInt = 113 ∨ a0.toInt = 114 ∨ a0.toInt = 115 ∨ a0.toInt = 116 ∨ a0.toInt = 117 ∨ a0.toInt = 118 ∨ a0.toInt = 119 ∨ a0.toInt = 120 ∨ a0.toInt = 121 by omega) with t1 | t1 | t1 | t1 | t1 | t1 | t1 | t1 | t1 | t1 | t1 | t1 | t1 | t1 | t1 | t1 | t1 | t1 | t1 | t1 | t1 | t1 | t1 | t1 | t1
  · refine ur_tabO rfl (by show a0.toInt < 98 ∨ 98 + 24 ≤ a0.toInt; omega) ?_
    refine ur_push rfl ?_
    exact ur_ret rfl rfl (hQ _ ⟨_, rfl, by omega⟩ )
  · refine ur_tabI rfl (by omega) (by rw [t1]; rfl) ?_
    refine ur_push rfl ?_
    exact ur_ret rfl rfl (hQ _ ⟨_, rfl, by omega⟩ )
  · refine ur_tabI rfl (by omega) (by rw [t1]; rfl) ?_
    refine ur_push rfl ?_
    exact ur_ret rfl rfl (hQ _ ⟨_, rfl, by omega⟩ )
  · refine ur_tabI rfl (by omega) (by rw [t1]; rfl) ?_
    refine ur_push rfl ?_
    exact ur_ret rfl rfl (hQ _ ⟨_, rfl, by omega⟩ )
  · refine ur_tabI rfl (by omega) (by rw [t1]; rfl) ?_
    refine ur_push rfl ?_
    exact ur_ret rfl rfl (hQ _ ⟨_, rfl, by omega⟩ )
  · refine ur_tabI rfl (by omega) (by rw [t1]; rfl) ?_
    refine ur_push rfl ?_
    exact ur_ret rfl rfl (hQ _ ⟨_, rfl, by omega⟩ )
  · refine ur_tabI rfl (by omega) (by rw [t1]; rfl) ?_
    refine ur_push rfl ?_
    exact ur_ret rfl rfl (hQ _ ⟨_, rfl, by omega⟩ )
  · refine ur_tabI rfl (by omega) (by rw [t1]; rfl) ?_
    refine ur_push rfl ?_
    exact ur_ret rfl rfl (hQ _ ⟨_, rfl, by omega⟩ )
  · refine ur_tabI rfl (by omega) (by rw [t1]; rfl) ?_
    refine ur_push rfl ?_
    exact ur_ret rfl rfl (hQ _ ⟨_, rfl, by omega⟩ )
  · refine ur_tabI rfl (by omega) (by rw [t1]; rfl) ?_
    refine ur_push rfl ?_
    exact ur_ret rfl rfl (hQ _ ⟨_, rfl, by omega⟩ )
  · refine ur_tabI rfl (by omega) (by rw [t1]; rfl) ?_
    refine ur_push rfl ?_
    exact ur_ret rfl rfl (hQ _ ⟨_, rfl, by omega⟩ )
  · refine ur_tabI rfl (by omega) (by rw [t1]; rfl) ?_
    refine ur_push rfl ?_
    exact ur_ret rfl rfl (hQ _ ⟨_, rfl, by omega⟩ )
  · refine ur_tabI rfl (by omega) (by rw [t1]; rfl) ?_
    refine ur_push rfl ?_
    exact ur_ret rfl rfl (hQ _ ⟨_, rfl, by omega⟩ )
  · refine ur_tabI rfl (by omega) (by rw [t1]; rfl) ?_
    refine ur_push rfl ?_
    exact ur_ret rfl rfl (hQ _ ⟨_, rfl, by omega⟩ )
  · refine ur_tabI rfl (by omega) (by rw [t1]; rfl) ?_
    refine ur_push rfl ?_
    exact ur_ret rfl rfl (hQ _ ⟨_, rfl, by omega⟩ )
  · refine ur_tabI rfl (by omega) (by rw [t1]; rfl) ?_
    refine ur_push rfl ?_
    exact ur_ret rfl rfl (hQ _ ⟨_, rfl, by omega⟩ )
  · refine ur_tabI rfl (by omega) (by rw [t1]; rfl) ?_
    refine ur_push rfl ?_
    exact ur_ret rfl rfl (hQ _ ⟨_, rfl, by omega⟩ )
  · refine ur_tabI rfl (by omega) (by rw [t1]; rfl) ?_
    refine ur_push rfl ?_
    exact ur_ret rfl rfl (hQ _ ⟨_, rfl, by omega⟩ )
  · refine ur_tabI rfl (by omega) (by rw [t1]; rfl) ?_
    refine ur_push rfl ?_
    exact ur_ret rfl rfl (hQ _ ⟨_, rfl, by omega⟩ )
  · refine ur_tabI rfl (by omega) (by rw [t1]; rfl) ?_
    refine ur_push rfl ?_
    exact ur_ret rfl rfl (hQ _ ⟨_, rfl, by omega⟩ )
  · refine ur_tabI rfl (by omega) (by rw [t1]; rfl) ?_
    refine ur_push rfl ?_
    exact ur_ret rfl rfl (hQ _ ⟨_, rfl, by omega⟩ )
  · refine ur_tabI rfl (by omega) (by rw [t1]; rfl) ?_
    refine ur_push rfl ?_
    exact ur_ret rfl rfl (hQ _ ⟨_, rfl, by omega⟩ )
  · refine ur_tabI rfl (by omega) (by rw [t1]; rfl) ?_
    refine ur_push rfl ?_
    exact ur_ret rfl rfl (hQ _ ⟨_, rfl, by omega⟩ )
  · refine ur_tabI rfl (by omega) (by rw [t1]; rfl) ?_
    refine ur_push rfl ?_
    exact ur_ret rfl rfl (hQ _ ⟨_, rfl, by omega⟩ )
  · refine ur_tabI rfl (by omega) (by rw [t1]; rfl) ?_
    refine ur_push rfl ?_
    exact ur_ret rfl rfl (hQ _ ⟨_, rfl, by omega⟩ )

set_option maxRecDepth 20000 in
set_option maxHeartbeats 4000000 in
theorem sf_X12_opens {d kc ks : Nat} {h0 : aH} {Q : Option aV → aH → Prop} (hO0 : OK h0)  (pre0 : 0 ≤ fI h0 20 ∧ fI h0 20 ≤ 120) (pre1 : 0 ≤ fI h0 22 ∧ fI h0 22 ≤ 6) (hQ : ∀ r h', (∃ q, r = some (.inl (bi q)) ∧ (q = true → fI h0 22 ≠ 6 ∧ fI h' 22 = fI h0 22 + 1 ∧ fI h' 20 = fI h0 20 + 1 ∧ fI h' 21 = fI h0 21) ∧ (q = false → fI h0 22 = 6 ∧ 0 ≤ fI h' 21 ∧ fI h' 20 = fI h0 20)) → OK h' → un [] h0 h' → (fI h' 19 = fI h0 19 ∧ fI h' 23 = fI h0 23) → Q r h') : uCall Mt (d + 2) 217 [(.inr (.inr (some 69)))] h0 kc ks Q := by
  have l_0 : ((0) : Int32).toInt = 0 := by decide
  have l_1 : ((1) : Int32).toInt = 1 := by decide
  have l_6 : ((6) : Int32).toInt = 6 := by decide
  refine uc_ink [some (.inr (.inr (some 69)))] mt_217 (Nat.le_of_ble_eq_true rfl) rfl ?_
  obtain ⟨fs1, hc2⟩ := hO0.mod
  obtain ⟨f3, p4, t5⟩ := mf_19 hO0 hc2
  have t6 := fI_of hc2 p4
  obtain ⟨f7, p8⟩ := mf_20 hO0 hc2
  have t9 := fI_of hc2 p8
  obtain ⟨f10, p11⟩ := mf_21 hO0 hc2
  have t12 := fI_of hc2 p11
  obtain ⟨f13, p14⟩ := mf_22 hO0 hc2
  have t15 := fI_of hc2 p14
  obtain ⟨f16, p17, t18⟩ := mf_23 hO0 hc2
  have t19 := fI_of hc2 p17
  refine ur_ldA rfl rfl ?_
  refine ur_get rfl hc2 p14 ?_
  have t20 : 0 ≤ f13.toInt ∧ f13.toInt ≤ 6 := by omega
  refine ur_push rfl ?_
  refine ur_if2 rfl (fun c21 => ?_) (fun c21 => ?_)
  · have t22 := ne_to c21
    refine ur_ldA rfl rfl ?_
    refine ur_dup rfl rfl ?_
    refine ur_get rfl hc2 p14 ?_
    have t23 : 0 ≤ f13.toInt ∧ f13.toInt ≤ 6 := by omega
    refine ur_push rfl ?_
    refine ur_binV rfl (fun x24 e25 => ?_)
    have z26 := any_r f13
    have t27 := ti_add e25 (by omega) (by omega)
    refine ur_putM (W := []) rfl hO0 hc2 (by decide) rfl (ms_22 (hO0.msh hc2)) (Or.inl rfl) (fun h29 hO29 hv29 d28 hc30 => ?_)
    have hu29 : un [] h0 h29 := hv29.mono (by decide)
    have t31 := fI_of hc30 (gs_ne p4 (by decide))
    have t32 := fI_of hc30 (gs_ne p8 (by decide))
    have t33 := fI_of hc30 (gs_ne p11 (by decide))
    have t34 := fI_of hc30 (gs_eq p14)
    have t35 := fI_of hc30 (gs_ne p17 (by decide))
    refine ur_ldA rfl rfl ?_
    refine ur_dup rfl rfl ?_
    refine ur_get rfl hc30 (gs_ne p8 (by decide)) ?_
    have t36 : 0 ≤ f7.toInt ∧ f7.toInt ≤ 120 := by omega
    refine ur_push rfl ?_
    refine ur_binV rfl (fun x37 e38 => ?_)
    have z39 := any_r f7
    have t40 := ti_add e38 (by omega) (by omega)
    refine ur_putM (W := []) rfl hO29 hc30 (by decide) rfl (ms_20 (hO29.msh hc30)) (Or.inl rfl) (fun h42 hO42 hv42 d41 hc43 => ?_)
    have hu42 : un [] h29 h42 := hv42.mono (by decide)
    have t44 := fI_of hc43 (gs_ne (gs_ne p4 (by decide)) (by decide))
    have t45 := fI_of hc43 (gs_eq (gs_ne p8 (by decide)))
    have t46 := fI_of hc43 (gs_ne (gs_ne p11 (by decide)) (by decide))
    have t47 := fI_of hc43 (gs_ne (gs_eq p14) (by decide))
    have t48 := fI_of hc43 (gs_ne (gs_ne p17 (by decide)) (by decide))
    refine ur_push rfl ?_
    exact ur_ret rfl rfl (hQ _ _ ⟨true, rfl, fun _ => by omega, fun e => absurd e (by decide)⟩ hO42 (hu29.tr hu42) (by omega))
  · have t49 := ne_no c21
    refine ur_ldA rfl rfl ?_
    refine ur_inl rfl (rcv_of hc2) (Nat.le_of_ble_eq_true rfl) (Nat.le_of_ble_eq_true rfl) (sf_X12_wrong hO0  (fun w50 h54 hr51 hO54 hv54 hp52 hp53 => ?_))
    have hu54 := hv54
    subst hr51
    show uRun _ (uCall Mt _) _ 13 (_, [], _, _, _)
    refine ur_push rfl ?_
    obtain ⟨fs55, hc56⟩ := hO54.mod
    obtain ⟨f57, p58, t59⟩ := mf_19 hO54 hc56
    have t60 := fI_of hc56 p58
    obtain ⟨f61, p62⟩ := mf_20 hO54 hc56
    have t63 := fI_of hc56 p62
    obtain ⟨f64, p65⟩ := mf_21 hO54 hc56
    have t66 := fI_of hc56 p65
    obtain ⟨f67, p68⟩ := mf_22 hO54 hc56
    have t69 := fI_of hc56 p68
    obtain ⟨f70, p71, t72⟩ := mf_23 hO54 hc56
    have t73 := fI_of hc56 p71
    have t74 := fI_keep (k := 19) hO0 hO54 hv54 rfl (by decide)
    exact ur_ret rfl rfl (hQ _ _ ⟨false, rfl, fun e => absurd e (by decide), fun _ => by omega⟩ hO54 hu54 (by omega))

set_option maxRecDepth 20000 in
set_option maxHeartbeats 4000000 in
theorem sf_X12_number {d kc ks : Nat} {h0 : aH} {Q : Option aV → aH → Prop} (hO0 : OK h0)  (pre0 : 0 ≤ fI h0 20 ∧ fI h0 20 ≤ fI h0 19 ∧ fI h0 21 < 0 ∧ fI h0 23 ≤ fI h0 20) (hQ : ∀ r h', (r = none) → OK h' → un [83, 84] h0 h' → (fI h0 20 ≤ fI h' 20 ∧ fI h' 20 ≤ fI h' 19 ∧ fI h' 19 = fI h0 19) → (fI h0 23 ≤ fI h' 23 ∧ fI h' 23 - fI h' 20 ≤ fI h0 23 - fI h0 20 + 1) → (fI h' 21 < 0 → fI h' 23 - fI h' 20 ≤ fI h0 23 - fI h0 20 ∧ fI h' 22 = fI h0 22 ∧ fI h0 23 < fI h' 23) → (kp h0 h' (iL h0)) → (fI h' 21 < 0 → bk h' (iL h0) (iL h')) → Q r h') : uCall Mt (d + 2) 218 [(.inr (.inr (some 69)))] h0 kc ks Q := by
  have l_0 : ((0) : Int32).toInt = 0 := by decide
  have l_1 : ((1) : Int32).toInt = 1 := by decide
  have l_6 : ((6) : Int32).toInt = 6 := by decide
  have l_10 : ((10) : Int32).toInt = 10 := by decide
  have l_48 : ((48) : Int32).toInt = 48 := by decide
  have l_57 : ((57) : Int32).toInt = 57 := by decide
  refine uc_ink [some (.inr (.inr (some 69))), none, none] mt_218 (Nat.le_of_ble_eq_true rfl) rfl ?_
  obtain ⟨fs1, hc2⟩ := hO0.mod
  obtain ⟨f3, p4, t5⟩ := mf_19 hO0 hc2
  have t6 := fI_of hc2 p4
  obtain ⟨f7, p8⟩ := mf_20 hO0 hc2
  have t9 := fI_of hc2 p8
  obtain ⟨f10, p11⟩ := mf_21 hO0 hc2
  have t12 := fI_of hc2 p11
  obtain ⟨f13, p14⟩ := mf_22 hO0 hc2
  have t15 := fI_of hc2 p14
  obtain ⟨f16, p17, t18⟩ := mf_23 hO0 hc2
  have t19 := fI_of hc2 p17
  refine ur_push rfl ?_
  refine ur_svIk [some (.inr (.inr (some 69))), some (.inl 0), none] rfl rfl ?_
  refine ur_push rfl ?_
  refine ur_svIk [some (.inr (.inr (some 69))), some (.inl 0), some (.inl 0)] rfl rfl ?_
  have L22 : ∀ (m23 : Nat) (x20 : Int32) (x21 : Int32) (h25 : aH) , OK h25 → un [83, 84] h0 h25 → ((0 ≤ x21.toInt ∧ x21.toInt ≤ 6) ∧ fI h25 19 = fI h0 19 ∧ fI h25 20 ≤ fI h25 19 ∧ fI h25 20 = fI h0 20 + x21.toInt ∧ fI h25 21 = fI h0 21 ∧ fI h25 22 = fI h0 22 ∧ fI h25 23 = fI h0 23) → (kp h0 h25 (iL h0)) → ((7 - x21.toInt).toNat) < m23 → uRun oX12_number (uCall Mt (d + 1)) Q 4 ([some (.inr (.inr (some 69))), some (.inl x20), some (.inl x21)], [], h25, kc, ks) := by
    intro m23
    induction m23 with
    | zero => intro x20 x21 h25 hO25 hu25 iv27 px26 mm28; omega
    | succ m23 ih24 =>
      intro x20 x21 h25 hO25 hu25 iv27 px26 mm28
      refine ur_ldI rfl rfl ?_
      refine ur_push rfl ?_
      refine ur_if2 rfl (fun c29 => ?_) (fun c29 => ?_)
      · have t30 := le_to c29
        refine ur_ldI rfl rfl ?_
        refine ur_if1 rfl (fun c31 => ?_) (fun c31 => ?_)
        · have t32 := eq_to c31
          exfalso
          omega
        · have t33 := eq_no c31
          refine ur_ldA rfl rfl ?_
          obtain ⟨fs34, hc35⟩ := hO25.mod
          obtain ⟨f36, p37, t38⟩ := mf_19 hO25 hc35
          have t39 := fI_of hc35 p37
          obtain ⟨f40, p41⟩ := mf_20 hO25 hc35
          have t42 := fI_of hc35 p41
          refine ur_inl rfl (rcv_of hc35) (Nat.le_of_ble_eq_true rfl) (Nat.le_of_ble_eq_true rfl) (sf_X12_look hO25 (by omega) (fun w43 hr44 => ?_))
          obtain ⟨x45, rfl, t46⟩ := hr44
          show uRun _ (uCall Mt _) _ 61 (_, [(.inl x45)], _, _, _)
          refine ur_push rfl ?_
          refine ur_push rfl ?_
          refine ur_callv rfl rfl (Nat.le_of_ble_eq_true rfl) (Nat.le_of_ble_eq_true rfl) rfl (sp_in _ _ _ _ _) ?_
          refine ur_eqB rfl (fun c49 => ?_) (fun c49 => ?_)
          · have t50 := wi_noL c49 l_48 l_57
            refine ur_ldA rfl rfl ?_
            refine ur_push rfl ?_
            refine ur_ldI rfl rfl ?_
            obtain ⟨f51, p52⟩ := mf_21 hO25 hc35
            have t53 := fI_of hc35 p52
            obtain ⟨f54, p55⟩ := mf_22 hO25 hc35
            have t56 := fI_of hc35 p55
            obtain ⟨f57, p58, t59⟩ := mf_23 hO25 hc35
            have t60 := fI_of hc35 p58
            refine ur_inl rfl (rcv_of hc35) (Nat.le_of_ble_eq_true rfl) (Nat.le_of_ble_eq_true rfl) (sf_X12_lay hO25 _ (by show 1 ≤ (1 : Int32).toInt ∧ (1 : Int32).toInt ≤ 124; omega) _ (by omega) (fun w61 h66 hr62 hO66 hv66 hp63 hp64 hp65 => ?_))
            have hu66 := hv66
            subst hr62
            show uRun _ (uCall Mt _) _ 81 (_, [], _, _, _)
            obtain ⟨fs67, hc68⟩ := hO66.mod
            obtain ⟨f69, p70, t71⟩ := mf_19 hO66 hc68
            have t72 := fI_of hc68 p70
            obtain ⟨f73, p74⟩ := mf_20 hO66 hc68
            have t75 := fI_of hc68 p74
            obtain ⟨f76, p77⟩ := mf_21 hO66 hc68
            have t78 := fI_of hc68 p77
            obtain ⟨f79, p80⟩ := mf_22 hO66 hc68
            have t81 := fI_of hc68 p80
            obtain ⟨f82, p83, t84⟩ := mf_23 hO66 hc68
            have t85 := fI_of hc68 p83
            have t86 := fI_keep (k := 19) hO25 hO66 hv66 rfl (by decide)
            exact ur_ret0 rfl (hQ _ _ rfl hO66 (hu25.tr hu66) (by omega) (by omega) (by omega) (kp.tr (n := (iL h0)) px26 hp64 (by unfold iL; omega)) (fun q => (bk_cast (bk_push hp65 (by omega) rfl rfl) (by unfold iL; omega) (by unfold iL; omega))))
          · have t87 := wi_toL c49 l_48 l_57
            refine ur_ldA rfl rfl ?_
            obtain ⟨f88, p89⟩ := mf_21 hO25 hc35
            have t90 := fI_of hc35 p89
            obtain ⟨f91, p92⟩ := mf_22 hO25 hc35
            have t93 := fI_of hc35 p92
            obtain ⟨f94, p95, t96⟩ := mf_23 hO25 hc35
            have t97 := fI_of hc35 p95
            refine ur_inl rfl (rcv_of hc35) (Nat.le_of_ble_eq_true rfl) (Nat.le_of_ble_eq_true rfl) (sf_X12_wrong hO25  (fun w98 h102 hr99 hO102 hv102 hp100 hp101 => ?_))
            have hu102 : un [83, 84] h25 h102 := hv102.mono (by decide)
            subst hr99
            show uRun _ (uCall Mt _) _ 75 (_, [], _, _, _)
            refine ur_ldA rfl rfl ?_
            refine ur_push rfl ?_
            refine ur_ldI rfl rfl ?_
            obtain ⟨fs103, hc104⟩ := hO102.mod
            obtain ⟨f105, p106, t107⟩ := mf_19 hO102 hc104
            have t108 := fI_of hc104 p106
            obtain ⟨f109, p110⟩ := mf_20 hO102 hc104
            have t111 := fI_of hc104 p110
            obtain ⟨f112, p113⟩ := mf_21 hO102 hc104
            have t114 := fI_of hc104 p113
            obtain ⟨f115, p116⟩ := mf_22 hO102 hc104
            have t117 := fI_of hc104 p116
            obtain ⟨f118, p119, t120⟩ := mf_23 hO102 hc104
            have t121 := fI_of hc104 p119
            have t122 := fI_keep (k := 19) hO25 hO102 hv102 rfl (by decide)
            refine ur_inl rfl (rcv_of hc104) (Nat.le_of_ble_eq_true rfl) (Nat.le_of_ble_eq_true rfl) (sf_X12_lay hO102 _ (by show 1 ≤ (1 : Int32).toInt ∧ (1 : Int32).toInt ≤ 124; omega) _ (by omega) (fun w123 h128 hr124 hO128 hv128 hp125 hp126 hp127 => ?_))
            have hu128 := hv128
            subst hr124
            show uRun _ (uCall Mt _) _ 81 (_, [], _, _, _)
            obtain ⟨fs129, hc130⟩ := hO128.mod
            obtain ⟨f131, p132, t133⟩ := mf_19 hO128 hc130
            have t134 := fI_of hc130 p132
            obtain ⟨f135, p136⟩ := mf_20 hO128 hc130
            have t137 := fI_of hc130 p136
            obtain ⟨f138, p139⟩ := mf_21 hO128 hc130
            have t140 := fI_of hc130 p139
            obtain ⟨f141, p142⟩ := mf_22 hO128 hc130
            have t143 := fI_of hc130 p142
            obtain ⟨f144, p145, t146⟩ := mf_23 hO128 hc130
            have t147 := fI_of hc130 p145
            have t148 := fI_keep (k := 19) hO102 hO128 hv128 rfl (by decide)
            exact ur_ret0 rfl (hQ _ _ rfl hO128 (hu25.tr (hu102.tr hu128)) (by omega) (by omega) (by omega) (kp.tr (n := (iL h0)) (kp.tr (n := (iL h0)) px26 (kp_un hO25 hv102 (by decide) (by decide) (iL h0)) (Nat.le_refl _)) hp126 (by unfold iL; omega)) (fun q => (bk_cast (bk_push hp127 (by omega) rfl rfl) (by unfold iL; omega) (by unfold iL; omega))))
      · have t149 := le_no c29
        refine ur_ldA rfl rfl ?_
        obtain ⟨fs150, hc151⟩ := hO25.mod
        obtain ⟨f152, p153, t154⟩ := mf_19 hO25 hc151
        have t155 := fI_of hc151 p153
        obtain ⟨f156, p157⟩ := mf_20 hO25 hc151
        have t158 := fI_of hc151 p157
        refine ur_inl rfl (rcv_of hc151) (Nat.le_of_ble_eq_true rfl) (Nat.le_of_ble_eq_true rfl) (sf_X12_look hO25 (by omega) (fun w159 hr160 => ?_))
        obtain ⟨x161, rfl, t162⟩ := hr160
        show uRun _ (uCall Mt _) _ 14 (_, [(.inl x161)], _, _, _)
        refine ur_push rfl ?_
        refine ur_push rfl ?_
        refine ur_callv rfl rfl (Nat.le_of_ble_eq_true rfl) (Nat.le_of_ble_eq_true rfl) rfl (sp_in _ _ _ _ _) ?_
        refine ur_eqB rfl (fun c165 => ?_) (fun c165 => ?_)
        · have t166 := wi_noL c165 l_48 l_57
          refine ur_ldI rfl rfl ?_
          refine ur_if1 rfl (fun c167 => ?_) (fun c167 => ?_)
          · have t168 := eq_to c167
            refine ur_ldA rfl rfl ?_
            obtain ⟨f169, p170⟩ := mf_21 hO25 hc151
            have t171 := fI_of hc151 p170
            obtain ⟨f172, p173⟩ := mf_22 hO25 hc151
            have t174 := fI_of hc151 p173
            obtain ⟨f175, p176, t177⟩ := mf_23 hO25 hc151
            have t178 := fI_of hc151 p176
            refine ur_inl rfl (rcv_of hc151) (Nat.le_of_ble_eq_true rfl) (Nat.le_of_ble_eq_true rfl) (sf_X12_wrong hO25  (fun w179 h183 hr180 hO183 hv183 hp181 hp182 => ?_))
            have hu183 : un [83, 84] h25 h183 := hv183.mono (by decide)
            subst hr180
            show uRun _ (uCall Mt _) _ 75 (_, [], _, _, _)
            refine ur_ldA rfl rfl ?_
            refine ur_push rfl ?_
            refine ur_ldI rfl rfl ?_
            obtain ⟨fs184, hc185⟩ := hO183.mod
            obtain ⟨f186, p187, t188⟩ := mf_19 hO183 hc185
            have t189 := fI_of hc185 p187
            obtain ⟨f190, p191⟩ := mf_20 hO183 hc185
            have t192 := fI_of hc185 p191
            obtain ⟨f193, p194⟩ := mf_21 hO183 hc185
            have t195 := fI_of hc185 p194
            obtain ⟨f196, p197⟩ := mf_22 hO183 hc185
            have t198 := fI_of hc185 p197
            obtain ⟨f199, p200, t201⟩ := mf_23 hO183 hc185
            have t202 := fI_of hc185 p200
            have t203 := fI_keep (k := 19) hO25 hO183 hv183 rfl (by decide)
            refine ur_inl rfl (rcv_of hc185) (Nat.le_of_ble_eq_true rfl) (Nat.le_of_ble_eq_true rfl) (sf_X12_lay hO183 _ (by show 1 ≤ (1 : Int32).toInt ∧ (1 : Int32).toInt ≤ 124; omega) _ (by omega) (fun w204 h209 hr205 hO209 hv209 hp206 hp207 hp208 => ?_))
            have hu209 := hv209
            subst hr205
            show uRun _ (uCall Mt _) _ 81 (_, [], _, _, _)
            obtain ⟨fs210, hc211⟩ := hO209.mod
            obtain ⟨f212, p213, t214⟩ := mf_19 hO209 hc211
            have t215 := fI_of hc211 p213
            obtain ⟨f216, p217⟩ := mf_20 hO209 hc211
            have t218 := fI_of hc211 p217
            obtain ⟨f219, p220⟩ := mf_21 hO209 hc211
            have t221 := fI_of hc211 p220
            obtain ⟨f222, p223⟩ := mf_22 hO209 hc211
            have t224 := fI_of hc211 p223
            obtain ⟨f225, p226, t227⟩ := mf_23 hO209 hc211
            have t228 := fI_of hc211 p226
            have t229 := fI_keep (k := 19) hO183 hO209 hv209 rfl (by decide)
            exact ur_ret0 rfl (hQ _ _ rfl hO209 (hu25.tr (hu183.tr hu209)) (by omega) (by omega) (by omega) (kp.tr (n := (iL h0)) (kp.tr (n := (iL h0)) px26 (kp_un hO25 hv183 (by decide) (by decide) (iL h0)) (Nat.le_refl _)) hp207 (by unfold iL; omega)) (fun q => (bk_cast (bk_push hp208 (by omega) rfl rfl) (by unfold iL; omega) (by unfold iL; omega))))
          · have t230 := eq_no c167
            refine ur_ldA rfl rfl ?_
            refine ur_inl rfl (rcv_of hc151) (Nat.le_of_ble_eq_true rfl) (Nat.le_of_ble_eq_true rfl) (sf_X12_look hO25 (by omega) (fun w231 hr232 => ?_))
            obtain ⟨x233, rfl, t234⟩ := hr232
            show uRun _ (uCall Mt _) _ 61 (_, [(.inl x233)], _, _, _)
            refine ur_push rfl ?_
            refine ur_push rfl ?_
            refine ur_callv rfl rfl (Nat.le_of_ble_eq_true rfl) (Nat.le_of_ble_eq_true rfl) rfl (sp_in _ _ _ _ _) ?_
            refine ur_eqB rfl (fun c237 => ?_) (fun c237 => ?_)
            · have t238 := wi_noL c237 l_48 l_57
              refine ur_ldA rfl rfl ?_
              refine ur_push rfl ?_
              refine ur_ldI rfl rfl ?_
              obtain ⟨f239, p240⟩ := mf_21 hO25 hc151
              have t241 := fI_of hc151 p240
              obtain ⟨f242, p243⟩ := mf_22 hO25 hc151
              have t244 := fI_of hc151 p243
              obtain ⟨f245, p246, t247⟩ := mf_23 hO25 hc151
              have t248 := fI_of hc151 p246
              refine ur_inl rfl (rcv_of hc151) (Nat.le_of_ble_eq_true rfl) (Nat.le_of_ble_eq_true rfl) (sf_X12_lay hO25 _ (by show 1 ≤ (1 : Int32).toInt ∧ (1 : Int32).toInt ≤ 124; omega) _ (by omega) (fun w249 h254 hr250 hO254 hv254 hp251 hp252 hp253 => ?_))
              have hu254 := hv254
              subst hr250
              show uRun _ (uCall Mt _) _ 81 (_, [], _, _, _)
              obtain ⟨fs255, hc256⟩ := hO254.mod
              obtain ⟨f257, p258, t259⟩ := mf_19 hO254 hc256
              have t260 := fI_of hc256 p258
              obtain ⟨f261, p262⟩ := mf_20 hO254 hc256
              have t263 := fI_of hc256 p262
              obtain ⟨f264, p265⟩ := mf_21 hO254 hc256
              have t266 := fI_of hc256 p265
              obtain ⟨f267, p268⟩ := mf_22 hO254 hc256
              have t269 := fI_of hc256 p268
              obtain ⟨f270, p271, t272⟩ := mf_23 hO254 hc256
              have t273 := fI_of hc256 p271
              have t274 := fI_keep (k := 19) hO25 hO254 hv254 rfl (by decide)
              exact ur_ret0 rfl (hQ _ _ rfl hO254 (hu25.tr hu254) (by omega) (by omega) (by omega) (kp.tr (n := (iL h0)) px26 hp252 (by unfold iL; omega)) (fun q => (bk_cast (bk_push hp253 (by omega) rfl rfl) (by unfold iL; omega) (by unfold iL; omega))))
            · have t275 := wi_toL c237 l_48 l_57
              refine ur_ldA rfl rfl ?_
              obtain ⟨f276, p277⟩ := mf_21 hO25 hc151
              have t278 := fI_of hc151 p277
              obtain ⟨f279, p280⟩ := mf_22 hO25 hc151
              have t281 := fI_of hc151 p280
              obtain ⟨f282, p283, t284⟩ := mf_23 hO25 hc151
              have t285 := fI_of hc151 p283
              refine ur_inl rfl (rcv_of hc151) (Nat.le_of_ble_eq_true rfl) (Nat.le_of_ble_eq_true rfl) (sf_X12_wrong hO25  (fun w286 h290 hr287 hO290 hv290 hp288 hp289 => ?_))
              have hu290 : un [83, 84] h25 h290 := hv290.mono (by decide)
              subst hr287
              show uRun _ (uCall Mt _) _ 75 (_, [], _, _, _)
              refine ur_ldA rfl rfl ?_
              refine ur_push rfl ?_
              refine ur_ldI rfl rfl ?_
              obtain ⟨fs291, hc292⟩ := hO290.mod
              obtain ⟨f293, p294, t295⟩ := mf_19 hO290 hc292
              have t296 := fI_of hc292 p294
              obtain ⟨f297, p298⟩ := mf_20 hO290 hc292
              have t299 := fI_of hc292 p298
              obtain ⟨f300, p301⟩ := mf_21 hO290 hc292
              have t302 := fI_of hc292 p301
              obtain ⟨f303, p304⟩ := mf_22 hO290 hc292
              have t305 := fI_of hc292 p304
              obtain ⟨f306, p307, t308⟩ := mf_23 hO290 hc292
              have t309 := fI_of hc292 p307
              have t310 := fI_keep (k := 19) hO25 hO290 hv290 rfl (by decide)
              refine ur_inl rfl (rcv_of hc292) (Nat.le_of_ble_eq_true rfl) (Nat.le_of_ble_eq_true rfl) (sf_X12_lay hO290 _ (by show 1 ≤ (1 : Int32).toInt ∧ (1 : Int32).toInt ≤ 124; omega) _ (by omega) (fun w311 h316 hr312 hO316 hv316 hp313 hp314 hp315 => ?_))
              have hu316 := hv316
              subst hr312
              show uRun _ (uCall Mt _) _ 81 (_, [], _, _, _)
              obtain ⟨fs317, hc318⟩ := hO316.mod
              obtain ⟨f319, p320, t321⟩ := mf_19 hO316 hc318
              have t322 := fI_of hc318 p320
              obtain ⟨f323, p324⟩ := mf_20 hO316 hc318
              have t325 := fI_of hc318 p324
              obtain ⟨f326, p327⟩ := mf_21 hO316 hc318
              have t328 := fI_of hc318 p327
              obtain ⟨f329, p330⟩ := mf_22 hO316 hc318
              have t331 := fI_of hc318 p330
              obtain ⟨f332, p333, t334⟩ := mf_23 hO316 hc318
              have t335 := fI_of hc318 p333
              have t336 := fI_keep (k := 19) hO290 hO316 hv316 rfl (by decide)
              exact ur_ret0 rfl (hQ _ _ rfl hO316 (hu25.tr (hu290.tr hu316)) (by omega) (by omega) (by omega) (kp.tr (n := (iL h0)) (kp.tr (n := (iL h0)) px26 (kp_un hO25 hv290 (by decide) (by decide) (iL h0)) (Nat.le_refl _)) hp314 (by unfold iL; omega)) (fun q => (bk_cast (bk_push hp315 (by omega) rfl rfl) (by unfold iL; omega) (by unfold iL; omega))))
        · have t337 := wi_toL c165 l_48 l_57
          refine ur_push rfl ?_
          refine ur_ldI rfl rfl ?_
          refine ur_binV rfl (fun x338 e339 => ?_)
          have z340 := any_r x20
          refine ur_ldA rfl rfl ?_
          refine ur_inl rfl (rcv_of hc151) (Nat.le_of_ble_eq_true rfl) (Nat.le_of_ble_eq_true rfl) (sf_X12_look hO25 (by omega) (fun w341 hr342 => ?_))
          obtain ⟨x343, rfl, t344⟩ := hr342
          show uRun _ (uCall Mt _) _ 32 (_, [(.inl x343), (.inl x338)], _, _, _)
          refine ur_binV rfl (fun x345 e346 => ?_)
          have z347 := any_r x338
          have z348 := any_r x343
          refine ur_push rfl ?_
          refine ur_binV rfl (fun x349 e350 => ?_)
          have z351 := any_r x345
          refine ur_svIk [some (.inr (.inr (some 69))), some (.inl x349), some (.inl x21)] rfl rfl ?_
          refine ur_incV (fun z => [some (.inr (.inr (some 69))), some (.inl x349), some (.inl z)]) rfl rfl (fun _ => rfl) (fun x352 e353 => ?_)
          have z354 := any_r x21
          have t355 := ti_add e353 (by omega) (by omega)
          refine ur_ldA rfl rfl ?_
          refine ur_dup rfl rfl ?_
          refine ur_get rfl hc151 p157 ?_
          have t356 : 0 ≤ f156.toInt ∧ f156.toInt ≤ 120 := by omega
          refine ur_push rfl ?_
          refine ur_binV rfl (fun x357 e358 => ?_)
          have z359 := any_r f156
          have t360 := ti_add e358 (by omega) (by omega)
          obtain ⟨f361, p362⟩ := mf_21 hO25 hc151
          have t363 := fI_of hc151 p362
          obtain ⟨f364, p365⟩ := mf_22 hO25 hc151
          have t366 := fI_of hc151 p365
          obtain ⟨f367, p368, t369⟩ := mf_23 hO25 hc151
          have t370 := fI_of hc151 p368
          refine ur_putM (W := []) rfl hO25 hc151 (by decide) rfl (ms_20 (hO25.msh hc151)) (Or.inl rfl) (fun h372 hO372 hv372 d371 hc373 => ?_)
          have hu372 : un [83, 84] h25 h372 := hv372.mono (by decide)
          have t374 := fI_of hc373 (gs_ne p153 (by decide))
          have t375 := fI_of hc373 (gs_eq p157)
          have t376 := fI_of hc373 (gs_ne p362 (by decide))
          have t377 := fI_of hc373 (gs_ne p365 (by decide))
          have t378 := fI_of hc373 (gs_ne p368 (by decide))
          refine ur_go rfl ?_
          have z379 := any_r x352
          exact ih24 x349 x352 _ hO372 (hu25.tr hu372) (by omega) (kp.tr (n := (iL h0)) px26 (kp_un hO25 hv372 (by decide) (by decide) (iL h0)) (Nat.le_refl _)) (by omega)
  exact L22 _ 0 0 _ hO0 un.rf (by omega) (kp.rf (n := (iL h0))) (Nat.lt_succ_self _)
end CU2
