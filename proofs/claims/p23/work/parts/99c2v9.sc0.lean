/-! JUDGE AND BEST: sc0 -/
section WSC0
set_option maxRecDepth 20000 in
set_option maxHeartbeats 4000000 in
theorem sz_X7_forgetWeights {d kc ks : Nat} {h0 : aH} {Q : Option aV → aH → Prop} (hO0 : OK h0)  (hQ : ∀ r h', (r = none) → OK h' → un [45, 46] h0 h' → (WZa h') → Q r h') : uCall Mt (d + 2) 74 [(.inr (.inr (some 41)))] h0 kc ks Q := by
  have l_m1 : ((-1) : Int32).toInt = -1 := by decide
  refine uc_ink [some (.inr (.inr (some 41)))] mt_74 (Nat.le_of_ble_eq_true rfl) rfl ?_
  refine ur_ldA rfl rfl ?_
  obtain ⟨f2, f3, hc1, k4⟩ := ok_41 hO0
  refine ur_get rfl hc1 rfl ?_
  refine ur_push rfl ?_
  obtain ⟨xs6, hc5, hn7⟩ := hO0.lon (hO0.fix 45 (by decide) rfl)
  refine ur_inl rfl rfl (Nat.le_of_ble_eq_true rfl) (Nat.le_of_ble_eq_true rfl) (sd_fillJ (W := [45, 46]) hO0 hc5 hn7 (by decide) (Or.inr (Or.inr (wid_fix (by decide) (by decide)))) (fun h10 hO10 hu10 d9 hc11 => ?_))
  have w12 : wJ h0 h10 45 (List.replicate 36 0) := ⟨arJ_of hc11, d9⟩
  show uRun _ (uCall Mt _) _ 8 (_, [], _, _, _)
  refine ur_ldA rfl rfl ?_
  refine ur_get rfl ((d9 _ (by decide)).trans hc1) rfl ?_
  refine ur_push rfl ?_
  obtain ⟨xs14, hc13, hn15, he16⟩ := hO10.int (hO10.fix 46 (by decide) rfl)
  refine ur_inl rfl rfl (Nat.le_of_ble_eq_true rfl) (Nat.le_of_ble_eq_true rfl) (sd_fillI (W := [45, 46]) hO10 hc13 hn15 (by decide) (any_w rfl _) (Or.inr (Or.inr (wid_fix (by decide) (by decide)))) (fun h18 hO18 hu18 d17 hc19 => ?_))
  have w20 : wI h10 h18 46 (List.replicate 12 (-1)) := ⟨arI_of hc19, d17⟩
  show uRun _ (uCall Mt _) _ 16 (_, [], _, _, _)
  exact ur_ret0 rfl (hQ _ _ rfl hO18 (hu10.tr hu18) (WZa.of w12 w20))

set_option maxRecDepth 20000 in
set_option maxHeartbeats 4000000 in
theorem sz_X11_great {d kc ks : Nat} {h0 : aH} {Q : Option aV → aH → Prop} (hO0 : OK h0) (a1 : Int32) (a2 : Int32) (pre0 : SKc h0) (pre1 : fO h0 8 4 ≤ 1000000) (hQ : ∀ r h', (∃ x : Int32, r = some (.inl x) ∧ (¬ (((100 ≤ a1.toInt ∧ a1.toInt ≤ 20000) ∧ (0 ≤ a2.toInt ∧ a2.toInt ≤ 60))) ∧ x.toInt = -1 ∧ fO h' 1 2 = fO h0 1 2 ∨ (((100 ≤ a1.toInt ∧ a1.toInt ≤ 20000) ∧ (0 ≤ a2.toInt ∧ a2.toInt ≤ 60))) ∧ 4 ≤ fO h0 1 2 ∧ x.toInt = -3 ∧ fO h' 1 2 = fO h0 1 2 ∨ (((100 ≤ a1.toInt ∧ a1.toInt ≤ 20000) ∧ (0 ≤ a2.toInt ∧ a2.toInt ≤ 60))) ∧ fO h0 1 2 < 4 ∧ x.toInt = fO h0 1 2 + 0 ∧ fO h' 1 2 = fO h0 1 2 + 1)) → OK h' → un [2, 3, 45, 46, 221, 1102, 1804, 21208, 21209] h0 h' → (SKc h') → (imG (fO h' 1 2 = fO h0 1 2 + 1) (arI h' 2 = (arI h0 2).set (fO h0 1 2).toNat a1 ∧ arI h' 3 = (arI h0 3).set (fO h0 1 2).toNat a2) ∧ imG (fO h' 1 2 = fO h0 1 2) (h' = h0)) → ((fO h' 1 2 = fO h0 1 2 + 1 → fO h' 8 4 = fO h0 8 4 + 1)) → (WPs h0 h') → Q r h') : uCall Mt (d + 6) 124 [(.inr (.inr (some 0))), (.inl a1), (.inl a2)] h0 kc ks Q := by
  have l_m3 : ((-3) : Int32).toInt = -3 := by decide
  have l_m1 : ((-1) : Int32).toInt = -1 := by decide
  have l_0 : ((0) : Int32).toInt = 0 := by decide
  have l_4 : ((4) : Int32).toInt = 4 := by decide
  have l_60 : ((60) : Int32).toInt = 60 := by decide
  have l_100 : ((100) : Int32).toInt = 100 := by decide
  have l_20000 : ((20000) : Int32).toInt = 20000 := by decide
  refine uc_ink [some (.inr (.inr (some 0))), some (.inl a1), some (.inl a2)] mt_124 (Nat.le_of_ble_eq_true rfl) rfl ?_
  obtain ⟨f2, f3, hc1, k4⟩ := ok_1 hO0
  have t5 := fO_of (k := 2) hc1 rfl
  have t6 := fO_of (k := 4) hc1 rfl
  refine ur_ldI rfl rfl ?_
  refine ur_push rfl ?_
  refine ur_push rfl ?_
  refine ur_callv rfl rfl (Nat.le_of_ble_eq_true rfl) (Nat.le_of_ble_eq_true rfl) rfl (sp_within _ _ _ _ _) ?_
  refine ur_eqB rfl (fun c9 => ?_) (fun c9 => ?_)
  · have t10 := wi_noL c9 l_100 l_20000
    refine ur_push rfl ?_
    exact ur_ret rfl rfl (hQ _ _ ⟨_, rfl, Or.inl ⟨by omega, by omega, by omega⟩⟩ hO0 un.rf pre0 ⟨fun q => by exfalso; omega, fun _ => rfl⟩ (fun q => by exfalso; omega) WPs.rf)
  · have t11 := wi_toL c9 l_100 l_20000
    refine ur_ldI rfl rfl ?_
    refine ur_push rfl ?_
    refine ur_push rfl ?_
    refine ur_callv rfl rfl (Nat.le_of_ble_eq_true rfl) (Nat.le_of_ble_eq_true rfl) rfl (sp_within _ _ _ _ _) ?_
    refine ur_neB rfl (fun c14 => ?_) (fun c14 => ?_)
    · have t15 := wi_toL c14 l_0 l_60
      refine ur_ldA rfl rfl ?_
      obtain ⟨hc16, k17⟩ := ok_0 hO0
      refine ur_get rfl hc16 rfl ?_
      refine ur_get rfl hc1 rfl ?_
      refine ur_push rfl ?_
      refine ur_if2 rfl (fun c18 => ?_) (fun c18 => ?_)
      · have t19 := lt_to c18
        refine ur_ldA rfl rfl ?_
        refine ur_get rfl hc16 rfl ?_
        obtain ⟨f21, hc20, k22⟩ := ok_8 hO0
        have t23 := fO_of (k := 4) hc20 rfl
        refine ur_inl rfl (rcv_of hc20) (Nat.le_of_ble_eq_true rfl) (Nat.le_of_ble_eq_true rfl) (sd_X5_forgetSights hO0 pre1 (fun w24 h27 hr25 hO27 hv27 hp26 => ?_))
        have hu27 : un [2, 3, 45, 46, 221, 1102, 1804, 21208, 21209] h0 h27 := hv27.mono (by decide)
        subst hr25
        show uRun _ (uCall Mt _) _ 45 (_, [], _, _, _)
        refine ur_ldA rfl rfl ?_
        refine ur_get rfl (hv27.ko (n := 8) hc16 rfl (wid_f (by decide)) (by decide)) rfl ?_
        obtain ⟨f29, f30, hc28, k31⟩ := ok_41 hO27
        have t32 := fO_keep (a := 1) (ci := 6) (n := 5) (k := 2) hO0 hO27 hv27 (by decide) rfl (by decide) rfl (by decide)
        have t33 := fO_keep (a := 1) (ci := 6) (n := 5) (k := 4) hO0 hO27 hv27 (by decide) rfl (by decide) rfl (by decide)
        refine ur_inl rfl (rcv_of hc28) (Nat.le_of_ble_eq_true rfl) (Nat.le_of_ble_eq_true rfl) (sz_X7_forgetWeights hO27  (fun w34 h37 hr35 hO37 hv37 hp36 => ?_))
        have hu37 : un [2, 3, 45, 46, 221, 1102, 1804, 21208, 21209] h27 h37 := hv37.mono (by decide)
        subst hr35
        show uRun _ (uCall Mt _) _ 52 (_, [], _, _, _)
        refine ur_ldA rfl rfl ?_
        refine ur_get rfl (hv37.ko (n := 8) (hv27.ko (n := 8) hc16 rfl (wid_f (by decide)) (by decide)) rfl (wid_f (by decide)) (by decide)) rfl ?_
        refine ur_ldI rfl rfl ?_
        refine ur_ldI rfl rfl ?_
        have t38 := fO_of (k := 2) (hv37.ko (n := 5) (hv27.ko (n := 5) hc1 rfl (wid_f (by decide)) (by decide)) rfl (wid_f (by decide)) (by decide)) rfl
        have t39 := fO_of (k := 4) (hv37.ko (n := 5) (hv27.ko (n := 5) hc1 rfl (wid_f (by decide)) (by decide)) rfl (wid_f (by decide)) (by decide)) rfl
        have t40 := fO_keep (a := 1) (ci := 6) (n := 5) (k := 2) hO27 hO37 hv37 (by decide) rfl (by decide) rfl (by decide)
        have t41 := fO_keep (a := 1) (ci := 6) (n := 5) (k := 4) hO27 hO37 hv37 (by decide) rfl (by decide) rfl (by decide)
        refine ur_inl rfl (rcv_of (hv37.ko (n := 5) (hv27.ko (n := 5) hc1 rfl (wid_f (by decide)) (by decide)) rfl (wid_f (by decide)) (by decide))) (Nat.le_of_ble_eq_true rfl) (Nat.le_of_ble_eq_true rfl) (se_X6_addGreat hO37 _ (by show 100 ≤ a1.toInt ∧ a1.toInt ≤ 20000; omega) _ (by show 0 ≤ a2.toInt ∧ a2.toInt ≤ 60; omega) ((pre0.un hO0 hO27 hv27 (by decide)).un hO27 hO37 hv37 (by decide)) (by omega) (by omega) (by omega) (fun w42 h46 hr43 hO46 hv46 hp44 hp45 => ?_))
        have hu46 : un [2, 3, 45, 46, 221, 1102, 1804, 21208, 21209] h37 h46 := hv46.mono (by decide)
        obtain ⟨x47, rfl, t48⟩ := hr43
        show uRun _ (uCall Mt _) _ 61 (_, [(.inl x47)], _, _, _)
        obtain ⟨f50, f51, hc49, k52⟩ := ok_1 hO46
        have t53 := fO_of (k := 2) hc49 rfl
        have t54 := fO_of (k := 4) hc49 rfl
        have t55 := fO_keep (a := 1) (ci := 6) (n := 5) (k := 4) hO37 hO46 hv46 (by decide) rfl (by decide) rfl (by decide)
        exact ur_ret rfl rfl (hQ _ _ ⟨_, rfl, Or.inr (Or.inr ⟨by omega, by omega, by omega, by omega⟩)⟩ hO46 (hu27.tr (hu37.tr hu46)) hp44 ⟨fun _ => (by have q := hp45; rw [show fO h37 1 2 = fO h0 1 2 by omega, show arI h37 2 = arI h0 2 from ((arI_keep (a := 2) (kd := 0) (n := 4) hO27 hv37 (by decide) rfl (by decide) rfl (by decide) (by decide)).trans (arI_keep (a := 2) (kd := 0) (n := 4) hO0 hv27 (by decide) rfl (by decide) rfl (by decide) (by decide))), show arI h37 3 = arI h0 3 from ((arI_keep (a := 3) (kd := 0) (n := 4) hO27 hv37 (by decide) rfl (by decide) rfl (by decide) (by decide)).trans (arI_keep (a := 3) (kd := 0) (n := 4) hO0 hv27 (by decide) rfl (by decide) rfl (by decide) (by decide)))] at q; exact q), fun q => by exfalso; omega⟩ (fun _ => by have q0 := hp26; have q1 := (fO_keep (a := 8) (ci := 5) (n := 5) (k := 4) hO27 hO37 hv37 (by decide) rfl (by decide) rfl (by decide)); have q2 := (fO_keep (a := 8) (ci := 5) (n := 5) (k := 4) hO37 hO46 hv46 (by decide) rfl (by decide) rfl (by decide)); omega) (WPs.z (hp36.un hO37 hv46 (by decide))))
      · have t56 := lt_no c18
        refine ur_push rfl ?_
        exact ur_ret rfl rfl (hQ _ _ ⟨_, rfl, Or.inr (Or.inl ⟨by omega, by omega, by omega, by omega⟩)⟩ hO0 un.rf pre0 ⟨fun q => by exfalso; omega, fun _ => rfl⟩ (fun q => by exfalso; omega) WPs.rf)
    · have t57 := wi_noL c14 l_0 l_60
      refine ur_push rfl ?_
      exact ur_ret rfl rfl (hQ _ _ ⟨_, rfl, Or.inl ⟨by omega, by omega, by omega⟩⟩ hO0 un.rf pre0 ⟨fun q => by exfalso; omega, fun _ => rfl⟩ (fun q => by exfalso; omega) WPs.rf)

set_option maxRecDepth 20000 in
set_option maxHeartbeats 4000000 in
theorem sz_X11_text {d kc ks : Nat} {h0 : aH} {Q : Option aV → aH → Prop} {L : Nat → List (List (Int × Int) × List (Int × Int))} (hO0 : OK h0) (a1 : Int32) (pre0 : BY h0) (pre1 : NA h0) (pre2 : TXF h0 L) (pre3 : fO h0 8 4 ≤ 1000000) (hQ : ∀ r h', (∃ x : Int32, r = some (.inl x) ∧ (((((0 ≤ a1.toInt ∧ a1.toInt ≤ 1 ∨ 10 ≤ a1.toInt ∧ a1.toInt ≤ 18) → fO h' 5 1 = 0) ∧ (¬ (0 ≤ a1.toInt ∧ a1.toInt ≤ 1 ∨ 10 ≤ a1.toInt ∧ a1.toInt ≤ 18) → fO h' 5 1 = fO h0 5 1 ∧ x.toInt = -1)) ∧ ((0 ≤ a1.toInt ∧ a1.toInt ≤ 1 ∨ 10 ≤ a1.toInt ∧ a1.toInt ≤ 18) → CXt (tC h0) h' (tqN a1.toInt) x.toInt) ∧ ∀ q ∈ TXQ, (q ≠ tqN a1.toInt ∨ x.toInt ≠ 1) → txC h' q = txC h0 q) ∧ (x.toInt = 1 ∧ 10 ≤ a1.toInt → ∃ ls hm, Txd (tC h0) ls ∧ txC h' (tqN a1.toInt) = cfl 0 ls ∧ OK hm ∧ OW3 h0 hm 0 ∧ arR hm 16 = arR h0 16 ∧ SWq hm h' (fun _ => ls) (fun z => fO hm z 2 = a1.toInt - 10) (fO h0 15 1)) ∧ (¬ (x.toInt = 1 ∧ 10 ≤ a1.toInt) → OW3 h0 h' 0) ∧ ((x.toInt = 1 ∧ a1.toInt = 0 → fO h' 8 4 = fO h0 8 4 + 1) ∧ (¬ (x.toInt = 1 ∧ a1.toInt = 0) → fO h' 8 4 = fO h0 8 4)) ∧ ((x.toInt = 1 → WZa h') ∧ (x.toInt ≠ 1 → WPs h0 h')))) → OK h' → un [10, 12, 24, 26, 28, 30, 32, 34, 36, 38, 40, 45, 46, 1501, 1804, 1901, 2101, 3301, 3501, 3701, 3901, 4101, 4301, 4501, 4701, 4901, 22010, 22011, 22012] h0 h' → Q r h') : uCall Mt (d + 48) 131 [(.inr (.inr (some 0))), (.inl a1)] h0 kc ks Q := by
  have l_m100 : ((-100) : Int32).toInt = -100 := by decide
  have l_m1 : ((-1) : Int32).toInt = -1 := by decide
  have l_0 : ((0) : Int32).toInt = 0 := by decide
  have l_1 : ((1) : Int32).toInt = 1 := by decide
  have l_10 : ((10) : Int32).toInt = 10 := by decide
  refine uc_ink [some (.inr (.inr (some 0))), some (.inl a1), none, none] mt_131 (Nat.le_of_ble_eq_true rfl) rfl ?_
  obtain ⟨f2, f3, f4, f5, hc1, k6⟩ := ok_5 hO0
  have t7 := fO_of (k := 1) hc1 rfl
  have t8 := fO_of (k := 2) hc1 rfl
  have t9 := fO_of (k := 3) hc1 rfl
  have t10 := fO_of (k := 5) hc1 rfl
  obtain ⟨f12, f13, f14, f15, hc11, k16⟩ := ok_15 hO0
  have t17 := fO_of (k := 1) hc11 rfl
  refine ur_ldA rfl rfl ?_
  refine ur_ldI rfl rfl ?_
  obtain ⟨hc18, k19⟩ := ok_0 hO0
  refine ur_inl rfl (rcv_of hc18) (Nat.le_of_ble_eq_true rfl) (Nat.le_of_ble_eq_true rfl) (st_X11_textOf hO0 _ (fun w20 hr21 => ?_))
  obtain ⟨o22, rfl, k23, t24, t25⟩ := hr21
  show uRun _ (uCall Mt _) _ 5 (_, [(.inr (.inr o22))], _, _, _)
  refine ur_svAk [some (.inr (.inr (some 0))), some (.inl a1), some (.inr (.inr o22)), none] rfl rfl ?_
  refine ur_ldA rfl rfl ?_
  cases o22 with
  | none =>
    refine ur_nulN rfl ?_
    have t27 := t24 rfl
    refine ur_push rfl ?_
    exact ur_ret rfl rfl (hQ _ _ ⟨_, rfl, (an5 (an4 ⟨⟨by omega, fun q => by exfalso; omega, fun _ _ _ => rfl⟩, ⟨fun q => by exfalso; omega, fun _ => OW3.rf⟩⟩ ⟨fun q => by exfalso; omega, fun _ => rfl⟩) ⟨fun q => by exfalso; omega, fun _ => WPs.rf⟩)⟩ hO0 un.rf)
  | some r26 =>
    refine ur_nulS rfl ?_
    have k28 := k23 _ rfl
    have t29 := t25 _ rfl
    refine ur_ldA rfl rfl ?_
    refine ur_get rfl hc18 rfl ?_
    refine ur_ldA rfl rfl ?_
    refine ur_inl rfl (rcv_of hc1) (Nat.le_of_ble_eq_true rfl) (Nat.le_of_ble_eq_true rfl) (st_X8_becomeText hO0 k28.2 rfl pre0 (t29.1 ▸ tqN_m t29.2) (fun w30 h33 hr31 hO33 hv33 hp32 => ?_))
    have hu33 : un [10, 12, 24, 26, 28, 30, 32, 34, 36, 38, 40, 45, 46, 1501, 1804, 1901, 2101, 3301, 3501, 3701, 3901, 4101, 4301, 4501, 4701, 4901, 22010, 22011, 22012] h0 h33 := hv33.mono (by decide)
    obtain ⟨x34, rfl, f35⟩ := hr31
    show uRun _ (uCall Mt _) _ 20 (_, [(.inl x34)], _, _, _)
    have t36 := And.intro f35.1.1.r f35.1.2
    refine ur_svIk [some (.inr (.inr (some 0))), some (.inl a1), some (.inr (.inr (some r26))), some (.inl x34)] rfl rfl ?_
    refine ur_ldI rfl rfl ?_
    refine ur_push rfl ?_
    refine ur_if2 rfl (fun c37 => ?_) (fun c37 => ?_)
    · have t38 := eq_to c37
      obtain ⟨ls39, hd40, ht41⟩ := CTt.g f35.1.1 (by omega)
      refine ur_ldA rfl rfl ?_
      refine ur_get rfl (hv33.ko (n := 8) hc18 rfl (wid_f (by decide)) (by decide)) rfl ?_
      obtain ⟨f43, f44, hc42, k45⟩ := ok_41 hO33
      have t46 := fO_keep (a := 15) (ci := 1) (n := 11) (k := 1) hO0 hO33 hv33 (by decide) rfl (by decide) rfl (by decide)
      refine ur_inl rfl (rcv_of hc42) (Nat.le_of_ble_eq_true rfl) (Nat.le_of_ble_eq_true rfl) (sz_X7_forgetWeights hO33  (fun w47 h50 hr48 hO50 hv50 hp49 => ?_))
      have hu50 : un [10, 12, 24, 26, 28, 30, 32, 34, 36, 38, 40, 45, 46, 1501, 1804, 1901, 2101, 3301, 3501, 3701, 3901, 4101, 4301, 4501, 4701, 4901, 22010, 22011, 22012] h33 h50 := hv50.mono (by decide)
      subst hr48
      show uRun _ (uCall Mt _) _ 38 (_, [], _, _, _)
      refine ur_ldI rfl rfl ?_
      refine ur_if1 rfl (fun c51 => ?_) (fun c51 => ?_)
      · have t52 := ne_to c51
        refine ur_ldI rfl rfl ?_
        refine ur_push rfl ?_
        refine ur_if2 rfl (fun c53 => ?_) (fun c53 => ?_)
        · have t54 := lt_to c53
          refine ur_push rfl ?_
          obtain ⟨f56, f57, f58, f59, hc55, k60⟩ := ok_5 hO50
          have t61 := fO_of (k := 1) hc55 rfl
          have t62 := fO_of (k := 2) hc55 rfl
          have t63 := fO_of (k := 3) hc55 rfl
          have t64 := fO_of (k := 5) hc55 rfl
          have t65 := fO_of (k := 1) (hv50.ko (n := 11) (hv33.ko (n := 11) hc11 rfl (wid_f (by decide)) (by decide)) rfl (wid_f (by decide)) (by decide)) rfl
          have t66 := fO_keep (a := 5) (ci := 8) (n := 6) (k := 1) hO33 hO50 hv50 (by decide) rfl (by decide) rfl (by decide)
          have t67 := fO_keep (a := 15) (ci := 1) (n := 11) (k := 1) hO33 hO50 hv50 (by decide) rfl (by decide) rfl (by decide)
          exact ur_ret rfl rfl (hQ _ _ ⟨_, rfl, (an5 (an4 ⟨⟨by omega, fun _ => CTt.x f35.1.1 t29.1.symm (fun _ => ((txC_un hO33 hO50 hv50 (by decide)) _ (t29.1 ▸ tqN_m t29.2))) (by omega), fun q hq hne => ((txC_un hO33 hO50 hv50 (by decide)) q hq).trans (f35.2 q hq (hne.elim (fun hne => Or.inl (fun e => hne (e.trans t29.1))) (fun hne => Or.inr (by omega))))⟩, ⟨fun q => by exfalso; omega, fun _ => ((OW3.un hO0 hv33 (by decide)).tr (OW3.un hO33 hv50 (by decide)))⟩⟩ ⟨fun q => by exfalso; omega, fun _ => by have q0 := (fO_keep (a := 8) (ci := 5) (n := 5) (k := 4) hO0 hO33 hv33 (by decide) rfl (by decide) rfl (by decide)); have q1 := (fO_keep (a := 8) (ci := 5) (n := 5) (k := 4) hO33 hO50 hv50 (by decide) rfl (by decide) rfl (by decide)); omega⟩) ⟨fun _ => hp49, fun q => absurd (by omega) q⟩)⟩ hO50 (hu33.tr hu50))
        · have t68 := lt_no c53
          have tf69 := TXF.up (p := (a1.toInt - 10).toNat) pre2 (fun q9 hq hne => f35.2 q9 hq (Or.inl hne)) (t29.1.trans (tqN_10 (by omega))) ht41 hd40.1
          refine ur_ldA rfl rfl ?_
          refine ur_get rfl (hv50.ko (n := 8) (hv33.ko (n := 8) hc18 rfl (wid_f (by decide)) (by decide)) rfl (wid_f (by decide)) (by decide)) rfl ?_
          refine ur_ldI rfl rfl ?_
          refine ur_push rfl ?_
          refine ur_binV rfl (fun x70 e71 => ?_)
          have z72 := any_r a1
          have t73 := ti_sub e71 (by omega) (by omega)
          have t74 := fO_of (k := 1) (hv50.ko (n := 11) (hv33.ko (n := 11) hc11 rfl (wid_f (by decide)) (by decide)) rfl (wid_f (by decide)) (by decide)) rfl
          have t75 := fO_keep (a := 5) (ci := 8) (n := 6) (k := 1) hO33 hO50 hv50 (by decide) rfl (by decide) rfl (by decide)
          have t76 := fO_keep (a := 15) (ci := 1) (n := 11) (k := 1) hO33 hO50 hv50 (by decide) rfl (by decide) rfl (by decide)
          refine ur_inl rfl (rcv_of (hv50.ko (n := 11) (hv33.ko (n := 11) hc11 rfl (wid_f (by decide)) (by decide)) rfl (wid_f (by decide)) (by decide))) (Nat.le_of_ble_eq_true rfl) (Nat.le_of_ble_eq_true rfl) (st_X1_settleWordsOf hO50 _ ((pre1.un hO0 hO33 hv33 (by decide) (by decide)).un hO33 hO50 hv50 (by decide) (by decide)) (tf69.un hO33 hO50 hv50 (by decide)) (fun w77 h80 hr78 hO80 hv80 hp79 => ?_))
          have hu80 : un [10, 12, 24, 26, 28, 30, 32, 34, 36, 38, 40, 45, 46, 1501, 1804, 1901, 2101, 3301, 3501, 3701, 3901, 4101, 4301, 4501, 4701, 4901, 22010, 22011, 22012] h50 h80 := hv80.mono (by decide)
          subst hr78
          show uRun _ (uCall Mt _) _ 66 (_, [], _, _, _)
          refine ur_push rfl ?_
          obtain ⟨f82, f83, f84, f85, hc81, k86⟩ := ok_5 hO80
          have t87 := fO_of (k := 1) hc81 rfl
          have t88 := fO_of (k := 2) hc81 rfl
          have t89 := fO_of (k := 3) hc81 rfl
          have t90 := fO_of (k := 5) hc81 rfl
          have t91 := fO_of (k := 1) (hv80.ko (n := 11) (hv50.ko (n := 11) (hv33.ko (n := 11) hc11 rfl (wid_f (by decide)) (by decide)) rfl (wid_f (by decide)) (by decide)) rfl (wid_f (by decide)) (by decide)) rfl
          have t92 := fO_keep (a := 5) (ci := 8) (n := 6) (k := 1) hO50 hO80 hv80 (by decide) rfl (by decide) rfl (by decide)
          have t93 := fO_keep (a := 15) (ci := 1) (n := 11) (k := 1) hO50 hO80 hv80 (by decide) rfl (by decide) rfl (by decide)
          exact ur_ret rfl rfl (hQ _ _ ⟨_, rfl, (an5 (an4 ⟨⟨by omega, fun _ => CTt.x f35.1.1 t29.1.symm (fun _ => ((fun q hq => ((txC_un hO50 hO80 hv80 (by decide)) q hq).trans ((txC_un hO33 hO50 hv50 (by decide)) q hq)) _ (t29.1 ▸ tqN_m t29.2))) (by omega), fun q hq hne => ((fun q hq => ((txC_un hO50 hO80 hv80 (by decide)) q hq).trans ((txC_un hO33 hO50 hv50 (by decide)) q hq)) q hq).trans (f35.2 q hq (hne.elim (fun hne => Or.inl (fun e => hne (e.trans t29.1))) (fun hne => Or.inr (by omega))))⟩, ⟨fun _ => ⟨ls39, h50, hd40, by rw [← t29.1, (fun q hq => ((txC_un hO50 hO80 hv80 (by decide)) q hq).trans ((txC_un hO33 hO50 hv50 (by decide)) q hq)) _ (t29.1 ▸ tqN_m t29.2)]; exact ht41, hO50, ((OW3.un hO0 hv33 (by decide)).tr (OW3.un hO33 hv50 (by decide))), ((arR_u hO33 hv50 (by decide)).trans (arR_u hO0 hv33 (by decide))), SWq.l (q := x70.toInt) hp79 (by omega) (by omega) (by omega)⟩, fun q => absurd (by omega) q⟩⟩ ⟨fun q => by exfalso; omega, fun _ => by have q0 := (fO_keep (a := 8) (ci := 5) (n := 5) (k := 4) hO0 hO33 hv33 (by decide) rfl (by decide) rfl (by decide)); have q1 := (fO_keep (a := 8) (ci := 5) (n := 5) (k := 4) hO33 hO50 hv50 (by decide) rfl (by decide) rfl (by decide)); have q2 := (fO_keep (a := 8) (ci := 5) (n := 5) (k := 4) hO50 hO80 hv80 (by decide) rfl (by decide) rfl (by decide)); omega⟩) ⟨fun _ => (hp49.un hO50 hv80 (by decide)), fun q => absurd (by omega) q⟩)⟩ hO80 (hu33.tr (hu50.tr hu80)))
      · have t94 := ne_no c51
        refine ur_ldA rfl rfl ?_
        refine ur_get rfl (hv50.ko (n := 8) (hv33.ko (n := 8) hc18 rfl (wid_f (by decide)) (by decide)) rfl (wid_f (by decide)) (by decide)) rfl ?_
        obtain ⟨f96, hc95, k97⟩ := ok_8 hO50
        have t98 := fO_of (k := 4) hc95 rfl
        have t99 := fO_keep (a := 5) (ci := 8) (n := 6) (k := 1) hO33 hO50 hv50 (by decide) rfl (by decide) rfl (by decide)
        have t100 := fO_keep (a := 15) (ci := 1) (n := 11) (k := 1) hO33 hO50 hv50 (by decide) rfl (by decide) rfl (by decide)
        refine ur_inl rfl (rcv_of hc95) (Nat.le_of_ble_eq_true rfl) (Nat.le_of_ble_eq_true rfl) (sd_X5_forgetSights hO50 (by have q := pre3; have q0 := (fO_keep (a := 8) (ci := 5) (n := 5) (k := 4) hO0 hO33 hv33 (by decide) rfl (by decide) rfl (by decide)); have q1 := (fO_keep (a := 8) (ci := 5) (n := 5) (k := 4) hO33 hO50 hv50 (by decide) rfl (by decide) rfl (by decide)); omega) (fun w101 h104 hr102 hO104 hv104 hp103 => ?_))
        have hu104 : un [10, 12, 24, 26, 28, 30, 32, 34, 36, 38, 40, 45, 46, 1501, 1804, 1901, 2101, 3301, 3501, 3701, 3901, 4101, 4301, 4501, 4701, 4901, 22010, 22011, 22012] h50 h104 := hv104.mono (by decide)
        subst hr102
        show uRun _ (uCall Mt _) _ 49 (_, [], _, _, _)
        refine ur_ldI rfl rfl ?_
        refine ur_push rfl ?_
        refine ur_if2 rfl (fun c105 => ?_) (fun c105 => ?_)
        · have t106 := lt_to c105
          refine ur_push rfl ?_
          obtain ⟨f108, f109, f110, f111, hc107, k112⟩ := ok_5 hO104
          have t113 := fO_of (k := 1) hc107 rfl
          have t114 := fO_of (k := 2) hc107 rfl
          have t115 := fO_of (k := 3) hc107 rfl
          have t116 := fO_of (k := 5) hc107 rfl
          have t117 := fO_of (k := 1) (hv104.ko (n := 11) (hv50.ko (n := 11) (hv33.ko (n := 11) hc11 rfl (wid_f (by decide)) (by decide)) rfl (wid_f (by decide)) (by decide)) rfl (wid_f (by decide)) (by decide)) rfl
          have t118 := fO_keep (a := 5) (ci := 8) (n := 6) (k := 1) hO50 hO104 hv104 (by decide) rfl (by decide) rfl (by decide)
          have t119 := fO_keep (a := 15) (ci := 1) (n := 11) (k := 1) hO50 hO104 hv104 (by decide) rfl (by decide) rfl (by decide)
          exact ur_ret rfl rfl (hQ _ _ ⟨_, rfl, (an5 (an4 ⟨⟨by omega, fun _ => CTt.x f35.1.1 t29.1.symm (fun _ => ((fun q hq => ((txC_un hO50 hO104 hv104 (by decide)) q hq).trans ((txC_un hO33 hO50 hv50 (by decide)) q hq)) _ (t29.1 ▸ tqN_m t29.2))) (by omega), fun q hq hne => ((fun q hq => ((txC_un hO50 hO104 hv104 (by decide)) q hq).trans ((txC_un hO33 hO50 hv50 (by decide)) q hq)) q hq).trans (f35.2 q hq (hne.elim (fun hne => Or.inl (fun e => hne (e.trans t29.1))) (fun hne => Or.inr (by omega))))⟩, ⟨fun q => by exfalso; omega, fun _ => (((OW3.un hO0 hv33 (by decide)).tr (OW3.un hO33 hv50 (by decide))).tr (OW3.un hO50 hv104 (by decide)))⟩⟩ ⟨fun _ => by have q0 := (fO_keep (a := 8) (ci := 5) (n := 5) (k := 4) hO0 hO33 hv33 (by decide) rfl (by decide) rfl (by decide)); have q1 := (fO_keep (a := 8) (ci := 5) (n := 5) (k := 4) hO33 hO50 hv50 (by decide) rfl (by decide) rfl (by decide)); have q2 := hp103; omega, fun q => absurd ⟨by omega, by omega⟩ q⟩) ⟨fun _ => (hp49.un hO50 hv104 (by decide)), fun q => absurd (by omega) q⟩)⟩ hO104 (hu33.tr (hu50.tr hu104)))
        · have t120 := lt_no c105
          exfalso
          omega
    · have t121 := eq_no c37
      refine ur_push rfl ?_
      refine ur_ldI rfl rfl ?_
      refine ur_binV rfl (fun x122 e123 => ?_)
      have z124 := any_r x34
      have t125 := ti_sub e123 (by omega) (by omega)
      obtain ⟨f127, f128, f129, f130, hc126, k131⟩ := ok_5 hO33
      have t132 := fO_of (k := 1) hc126 rfl
      have t133 := fO_of (k := 2) hc126 rfl
      have t134 := fO_of (k := 3) hc126 rfl
      have t135 := fO_of (k := 5) hc126 rfl
      have t136 := fO_of (k := 1) (hv33.ko (n := 11) hc11 rfl (wid_f (by decide)) (by decide)) rfl
      have t137 := fO_keep (a := 15) (ci := 1) (n := 11) (k := 1) hO0 hO33 hv33 (by decide) rfl (by decide) rfl (by decide)
      exact ur_ret rfl rfl (hQ _ _ ⟨_, rfl, (an5 (an4 ⟨⟨by omega, fun _ => CTt.x f35.1.1 t29.1.symm (fun _ => rfl) (by omega), fun q hq hne => ((fun _ _ => rfl) q hq).trans (f35.2 q hq (hne.elim (fun hne => Or.inl (fun e => hne (e.trans t29.1))) (fun hne => Or.inr (by omega))))⟩, ⟨fun q => by exfalso; omega, fun _ => (OW3.un hO0 hv33 (by decide))⟩⟩ ⟨fun q => by exfalso; omega, fun _ => by have q0 := (fO_keep (a := 8) (ci := 5) (n := 5) (k := 4) hO0 hO33 hv33 (by decide) rfl (by decide) rfl (by decide)); omega⟩) ⟨fun q => by exfalso; omega, fun _ => (WPs.k hO0 hO33 hv33 (by decide))⟩)⟩ hO33 hu33)

set_option maxRecDepth 20000 in
set_option maxHeartbeats 4000000 in
theorem sz_X11_reign {d kc ks : Nat} {h0 : aH} {Q : Option aV → aH → Prop} {L : Nat → List (List (Int × Int) × List (Int × Int))} (hO0 : OK h0) (a1 : Int32) (a2 : Int32) (a3 : Int32) (pre0 : NA h0) (pre1 : TXF h0 L) (hQ : ∀ r h', (∃ x : Int32, r = some (.inl x) ∧ (x.toInt = 1 ∧ ((0 ≤ a1.toInt ∧ a1.toInt ≤ 19) ∧ (0 ≤ a2.toInt ∧ a2.toInt ≤ 999999) ∧ (-1 ≤ a3.toInt ∧ a3.toInt ≤ 999999)) ∨ x.toInt = -1 ∧ ¬ ((0 ≤ a1.toInt ∧ a1.toInt ≤ 19) ∧ (0 ≤ a2.toInt ∧ a2.toInt ≤ 999999) ∧ (-1 ≤ a3.toInt ∧ a3.toInt ≤ 999999)))) → OK h' → un [17, 18, 45, 46, 22010, 22011, 22012] h0 h' → (((0 ≤ a1.toInt ∧ a1.toInt ≤ 19) ∧ (0 ≤ a2.toInt ∧ a2.toInt ≤ 999999) ∧ (-1 ≤ a3.toInt ∧ a3.toInt ≤ 999999)) → ∃ hm, OK hm ∧ OW3 h0 hm 0 ∧ arR hm 16 = arR h0 16 ∧ arI hm 17 = (arI h0 17).set a1.toInt.toNat a2 ∧ arI hm 18 = (arI h0 18).set a1.toInt.toNat a3 ∧ SWq hm h' L (fun z => fO hm z 3 = a1.toInt) (fO h0 15 1) ∧ arI h' 17 = arI hm 17 ∧ arI h' 18 = arI hm 18) → (¬ ((0 ≤ a1.toInt ∧ a1.toInt ≤ 19) ∧ (0 ≤ a2.toInt ∧ a2.toInt ≤ 999999) ∧ (-1 ≤ a3.toInt ∧ a3.toInt ≤ 999999)) → h' = h0) → (WPs h0 h') → Q r h') : uCall Mt (d + 7) 132 [(.inr (.inr (some 0))), (.inl a1), (.inl a2), (.inl a3)] h0 kc ks Q := by
  have l_m1 : ((-1) : Int32).toInt = -1 := by decide
  have l_0 : ((0) : Int32).toInt = 0 := by decide
  have l_1 : ((1) : Int32).toInt = 1 := by decide
  have l_19 : ((19) : Int32).toInt = 19 := by decide
  have l_999999 : ((999999) : Int32).toInt = 999999 := by decide
  refine uc_ink [some (.inr (.inr (some 0))), some (.inl a1), some (.inl a2), some (.inl a3)] mt_132 (Nat.le_of_ble_eq_true rfl) rfl ?_
  obtain ⟨f2, f3, f4, f5, hc1, k6⟩ := ok_15 hO0
  have t7 := fO_of (k := 1) hc1 rfl
  refine ur_ldI rfl rfl ?_
  refine ur_push rfl ?_
  refine ur_push rfl ?_
  refine ur_callv rfl rfl (Nat.le_of_ble_eq_true rfl) (Nat.le_of_ble_eq_true rfl) rfl (sp_within _ _ _ _ _) ?_
  refine ur_eqB rfl (fun c10 => ?_) (fun c10 => ?_)
  · have t11 := wi_noL c10 l_0 l_19
    refine ur_push rfl ?_
    exact ur_ret rfl rfl (hQ _ _ ⟨_, rfl, by omega⟩ hO0 un.rf (fun q => by exfalso; omega) (fun _ => rfl) WPs.rf)
  · have t12 := wi_toL c10 l_0 l_19
    refine ur_ldI rfl rfl ?_
    refine ur_callv rfl rfl (Nat.le_of_ble_eq_true rfl) (Nat.le_of_ble_eq_true rfl) rfl (sp_isDay _ _) ?_
    refine ur_eqB rfl (fun c15 => ?_) (fun c15 => ?_)
    · have t16 := wi_noL c15 l_0 l_999999
      refine ur_push rfl ?_
      exact ur_ret rfl rfl (hQ _ _ ⟨_, rfl, by omega⟩ hO0 un.rf (fun q => by exfalso; omega) (fun _ => rfl) WPs.rf)
    · have t17 := wi_toL c15 l_0 l_999999
      refine ur_ldI rfl rfl ?_
      refine ur_push rfl ?_
      refine ur_push rfl ?_
      refine ur_callv rfl rfl (Nat.le_of_ble_eq_true rfl) (Nat.le_of_ble_eq_true rfl) rfl (sp_within _ _ _ _ _) ?_
      refine ur_neB rfl (fun c20 => ?_) (fun c20 => ?_)
      · have t21 := wi_toL c20 l_m1 l_999999
        refine ur_ldA rfl rfl ?_
        obtain ⟨hc22, k23⟩ := ok_0 hO0
        refine ur_get rfl hc22 rfl ?_
        obtain ⟨f25, f26, hc24, k27⟩ := ok_41 hO0
        refine ur_inl rfl (rcv_of hc24) (Nat.le_of_ble_eq_true rfl) (Nat.le_of_ble_eq_true rfl) (sz_X7_forgetWeights hO0  (fun w28 h31 hr29 hO31 hv31 hp30 => ?_))
        have hu31 : un [17, 18, 45, 46, 22010, 22011, 22012] h0 h31 := hv31.mono (by decide)
        subst hr29
        show uRun _ (uCall Mt _) _ 36 (_, [], _, _, _)
        refine ur_ldA rfl rfl ?_
        refine ur_get rfl (hv31.ko (n := 8) hc22 rfl (wid_f (by decide)) (by decide)) rfl ?_
        refine ur_ldI rfl rfl ?_
        refine ur_ldI rfl rfl ?_
        refine ur_ldI rfl rfl ?_
        have t32 := fO_of (k := 1) (hv31.ko (n := 11) hc1 rfl (wid_f (by decide)) (by decide)) rfl
        have t33 := fO_keep (a := 15) (ci := 1) (n := 11) (k := 1) hO0 hO31 hv31 (by decide) rfl (by decide) rfl (by decide)
        refine ur_inl rfl (rcv_of (hv31.ko (n := 11) hc1 rfl (wid_f (by decide)) (by decide))) (Nat.le_of_ble_eq_true rfl) (Nat.le_of_ble_eq_true rfl) (st_X1_tellReign hO31 _ _ _ (pre0.un hO0 hO31 hu31 (by decide) (by decide)) (pre1.un hO0 hO31 hv31 (by decide)) (fun w34 h38 hr35 hO38 hv38 hp36 hp37 => ?_))
        have hu38 : un [17, 18, 45, 46, 22010, 22011, 22012] h31 h38 := hv38.mono (by decide)
        subst hr35
        show uRun _ (uCall Mt _) _ 46 (_, [], _, _, _)
        refine ur_push rfl ?_
        have t39 := fO_of (k := 1) (hv38.ko (n := 11) (hv31.ko (n := 11) hc1 rfl (wid_f (by decide)) (by decide)) rfl (wid_f (by decide)) (by decide)) rfl
        have t40 := fO_keep (a := 15) (ci := 1) (n := 11) (k := 1) hO31 hO38 hv38 (by decide) rfl (by decide) rfl (by decide)
        exact ur_ret rfl rfl (hQ _ _ ⟨_, rfl, by omega⟩ hO38 (hu31.tr hu38) (fun _ => RG.m (OW3.un hO0 hv31 (by decide)) (arR_u hO0 hv31 (by decide)) (arI_keep (a := 17) (kd := 0) (n := 20) hO0 hv31 (by decide) rfl (by decide) rfl (by decide) (by decide)) (arI_keep (a := 18) (kd := 0) (n := 20) hO0 hv31 (by decide) rfl (by decide) rfl (by decide) (by decide)) (by omega) (hp36 (by omega))) (fun q => absurd (by omega) q) (WPs.z (hp30.un hO31 hv38 (by decide))))
      · have t41 := wi_noL c20 l_m1 l_999999
        refine ur_push rfl ?_
        exact ur_ret rfl rfl (hQ _ _ ⟨_, rfl, by omega⟩ hO0 un.rf (fun q => by exfalso; omega) (fun _ => rfl) WPs.rf)

set_option maxRecDepth 20000 in
set_option maxHeartbeats 4000000 in
theorem sz_X11_watch {d kc ks : Nat} {h0 : aH} {Q : Option aV → aH → Prop} (hO0 : OK h0) (a1 : Int32) (a2 : Int32) (a3 : Int32) (hQ : ∀ r h', (∃ x : Int32, r = some (.inl x) ∧ (¬ ((0 ≤ a1.toInt ∧ a1.toInt ≤ 8) ∧ (0 ≤ a2.toInt ∧ a2.toInt ≤ 999999) ∧ (0 ≤ a3.toInt ∧ a3.toInt ≤ 999999) ∧ a2.toInt ≤ a3.toInt) ∧ x.toInt = -1 ∧ fO h' 41 6 = fO h0 41 6 ∨ ((0 ≤ a1.toInt ∧ a1.toInt ≤ 8) ∧ (0 ≤ a2.toInt ∧ a2.toInt ≤ 999999) ∧ (0 ≤ a3.toInt ∧ a3.toInt ≤ 999999) ∧ a2.toInt ≤ a3.toInt) ∧ 10 ≤ fO h0 41 6 ∧ x.toInt = -3 ∧ fO h' 41 6 = fO h0 41 6 ∨ ((0 ≤ a1.toInt ∧ a1.toInt ≤ 8) ∧ (0 ≤ a2.toInt ∧ a2.toInt ≤ 999999) ∧ (0 ≤ a3.toInt ∧ a3.toInt ≤ 999999) ∧ a2.toInt ≤ a3.toInt) ∧ fO h0 41 6 < 10 ∧ x.toInt = fO h0 41 6 + 1 ∧ fO h' 41 6 = fO h0 41 6 + 1)) → OK h' → un [42, 43, 44, 45, 46, 5106] h0 h' → (imG (fO h' 41 6 = fO h0 41 6 + 1) (arI h' 42 = (arI h0 42).set (fO h0 41 6).toNat a1 ∧ arI h' 43 = (arI h0 43).set (fO h0 41 6).toNat a2 ∧ arI h' 44 = (arI h0 44).set (fO h0 41 6).toNat a3) ∧ imG (fO h' 41 6 = fO h0 41 6) (h' = h0)) → (WPs h0 h') → Q r h') : uCall Mt (d + 3) 133 [(.inr (.inr (some 0))), (.inl a1), (.inl a2), (.inl a3)] h0 kc ks Q := by
  have l_m3 : ((-3) : Int32).toInt = -3 := by decide
  have l_m1 : ((-1) : Int32).toInt = -1 := by decide
  have l_0 : ((0) : Int32).toInt = 0 := by decide
  have l_8 : ((8) : Int32).toInt = 8 := by decide
  have l_10 : ((10) : Int32).toInt = 10 := by decide
  have l_999999 : ((999999) : Int32).toInt = 999999 := by decide
  refine uc_ink [some (.inr (.inr (some 0))), some (.inl a1), some (.inl a2), some (.inl a3)] mt_133 (Nat.le_of_ble_eq_true rfl) rfl ?_
  obtain ⟨f2, f3, hc1, k4⟩ := ok_41 hO0
  have t5 := fO_of (k := 6) hc1 rfl
  refine ur_ldI rfl rfl ?_
  refine ur_callv rfl rfl (Nat.le_of_ble_eq_true rfl) (Nat.le_of_ble_eq_true rfl) rfl (sp_isPpl _ _) ?_
  refine ur_eqB rfl (fun c8 => ?_) (fun c8 => ?_)
  · have t9 := wi_noL c8 l_0 l_8
    refine ur_push rfl ?_
    exact ur_ret rfl rfl (hQ _ _ ⟨_, rfl, Or.inl ⟨by omega, by omega, by omega⟩⟩ hO0 un.rf ⟨fun q => by exfalso; omega, fun _ => rfl⟩ WPs.rf)
  · have t10 := wi_toL c8 l_0 l_8
    refine ur_ldI rfl rfl ?_
    refine ur_callv rfl rfl (Nat.le_of_ble_eq_true rfl) (Nat.le_of_ble_eq_true rfl) rfl (sp_isDay _ _) ?_
    refine ur_eqB rfl (fun c13 => ?_) (fun c13 => ?_)
    · have t14 := wi_noL c13 l_0 l_999999
      refine ur_push rfl ?_
      exact ur_ret rfl rfl (hQ _ _ ⟨_, rfl, Or.inl ⟨by omega, by omega, by omega⟩⟩ hO0 un.rf ⟨fun q => by exfalso; omega, fun _ => rfl⟩ WPs.rf)
    · have t15 := wi_toL c13 l_0 l_999999
      refine ur_ldI rfl rfl ?_
      refine ur_callv rfl rfl (Nat.le_of_ble_eq_true rfl) (Nat.le_of_ble_eq_true rfl) rfl (sp_isDay _ _) ?_
      refine ur_eqB rfl (fun c18 => ?_) (fun c18 => ?_)
      · have t19 := wi_noL c18 l_0 l_999999
        refine ur_push rfl ?_
        exact ur_ret rfl rfl (hQ _ _ ⟨_, rfl, Or.inl ⟨by omega, by omega, by omega⟩⟩ hO0 un.rf ⟨fun q => by exfalso; omega, fun _ => rfl⟩ WPs.rf)
      · have t20 := wi_toL c18 l_0 l_999999
        refine ur_ldI rfl rfl ?_
        refine ur_ldI rfl rfl ?_
        have z21 := any_r a2
        have z22 := any_r a3
        refine ur_if2 rfl (fun c23 => ?_) (fun c23 => ?_)
        · have t24 := le_to c23
          refine ur_ldA rfl rfl ?_
          obtain ⟨hc25, k26⟩ := ok_0 hO0
          refine ur_get rfl hc25 rfl ?_
          refine ur_get rfl hc1 rfl ?_
          refine ur_push rfl ?_
          refine ur_if2 rfl (fun c27 => ?_) (fun c27 => ?_)
          · have t28 := lt_to c27
            refine ur_ldA rfl rfl ?_
            refine ur_get rfl hc25 rfl ?_
            refine ur_inl rfl (rcv_of hc1) (Nat.le_of_ble_eq_true rfl) (Nat.le_of_ble_eq_true rfl) (sz_X7_forgetWeights hO0  (fun w29 h32 hr30 hO32 hv32 hp31 => ?_))
            have hu32 : un [42, 43, 44, 45, 46, 5106] h0 h32 := hv32.mono (by decide)
            subst hr30
            show uRun _ (uCall Mt _) _ 50 (_, [], _, _, _)
            refine ur_ldA rfl rfl ?_
            refine ur_get rfl (hv32.ko (n := 8) hc25 rfl (wid_f (by decide)) (by decide)) rfl ?_
            refine ur_ldI rfl rfl ?_
            refine ur_ldI rfl rfl ?_
            refine ur_ldI rfl rfl ?_
            have t33 := fO_of (k := 6) (hv32.ko (n := 15) hc1 rfl (wid_f (by decide)) (by decide)) rfl
            have t34 := fO_keep (a := 41) (ci := 7) (n := 15) (k := 6) hO0 hO32 hv32 (by decide) rfl (by decide) rfl (by decide)
            refine ur_inl rfl (rcv_of (hv32.ko (n := 15) hc1 rfl (wid_f (by decide)) (by decide))) (Nat.le_of_ble_eq_true rfl) (Nat.le_of_ble_eq_true rfl) (se_X7_addWatch hO32 _ (by show 0 ≤ a1.toInt ∧ a1.toInt ≤ 8; omega) _ (by show 0 ≤ a2.toInt ∧ a2.toInt ≤ 999999; omega) _ (by show 0 ≤ a3.toInt ∧ a3.toInt ≤ 999999; omega) (fun w35 h38 hr36 hO38 hv38 hp37 => ?_))
            have hu38 : un [42, 43, 44, 45, 46, 5106] h32 h38 := hv38.mono (by decide)
            obtain ⟨x39, rfl, t40⟩ := hr36
            show uRun _ (uCall Mt _) _ 60 (_, [(.inl x39)], _, _, _)
            obtain ⟨f42, f43, hc41, k44⟩ := ok_41 hO38
            have t45 := fO_of (k := 6) hc41 rfl
            exact ur_ret rfl rfl (hQ _ _ ⟨_, rfl, Or.inr (Or.inr ⟨by omega, by omega, by omega, by omega⟩)⟩ hO38 (hu32.tr hu38) ⟨fun _ => (by have q := hp37.1 (by omega); rw [show fO h32 41 6 = fO h0 41 6 by omega, show arI h32 42 = arI h0 42 from (arI_keep (a := 42) (kd := 0) (n := 10) hO0 hv32 (by decide) rfl (by decide) rfl (by decide) (by decide)), show arI h32 43 = arI h0 43 from (arI_keep (a := 43) (kd := 0) (n := 10) hO0 hv32 (by decide) rfl (by decide) rfl (by decide) (by decide)), show arI h32 44 = arI h0 44 from (arI_keep (a := 44) (kd := 0) (n := 10) hO0 hv32 (by decide) rfl (by decide) rfl (by decide) (by decide))] at q; exact q), fun q => by exfalso; omega⟩ (WPs.z (hp31.un hO32 hv38 (by decide))))
          · have t46 := lt_no c27
            refine ur_push rfl ?_
            exact ur_ret rfl rfl (hQ _ _ ⟨_, rfl, Or.inr (Or.inl ⟨by omega, by omega, by omega, by omega⟩)⟩ hO0 un.rf ⟨fun q => by exfalso; omega, fun _ => rfl⟩ WPs.rf)
        · have t47 := le_no c23
          refine ur_push rfl ?_
          exact ur_ret rfl rfl (hQ _ _ ⟨_, rfl, Or.inl ⟨by omega, by omega, by omega⟩⟩ hO0 un.rf ⟨fun q => by exfalso; omega, fun _ => rfl⟩ WPs.rf)


end WSC0
