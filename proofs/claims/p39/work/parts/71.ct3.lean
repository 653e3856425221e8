/-! CONTRACTS of the class, the second part, printed by program -/
section CT3
set_option maxRecDepth 20000 in
set_option maxHeartbeats 4000000 in
theorem sf_X11_kindAbove {d kc ks : Nat} {h0 : aH} {Q : Option aV → aH → Prop} (a0 : Int32) (hQ : ∀ r, (∃ x : Int32, r = some (.inl x) ∧ -1 ≤ x.toInt ∧ x.toInt ≤ 2) → Q r h0) : uCall Mt (d + 2) 180 [(.inl a0)] h0 kc ks Q := by
  have l_m1 : ((-1) : Int32).toInt = -1 := by decide
  have l_0 : ((0) : Int32).toInt = 0 := by decide
  have l_7 : ((7) : Int32).toInt = 7 := by decide
  refine uc_ink [some (.inl a0)] mt_180 (Nat.le_of_ble_eq_true rfl) rfl ?_
  refine ur_ldI rfl rfl ?_
  refine ur_push rfl ?_
  refine ur_push rfl ?_
  refine ur_callv rfl rfl (Nat.le_of_ble_eq_true rfl) (Nat.le_of_ble_eq_true rfl) rfl (sp_within _ _ _ _ _) ?_
  refine ur_eqB rfl (fun c3 => ?_) (fun c3 => ?_)
  · have t4 := wi_noL c3 l_0 l_7
    refine ur_push rfl ?_
    exact ur_ret rfl rfl (hQ _ ⟨_, rfl, by omega⟩ )
  · have t5 := wi_toL c3 l_0 l_7
    refine ur_abv rfl rfl (by omega) (fun x6 t7 e8 => ?_)
    refine ur_go rfl ?_
    exact ur_ret rfl rfl (hQ _ ⟨_, rfl, by omega⟩ )

set_option maxRecDepth 20000 in
set_option maxHeartbeats 4000000 in
theorem sf_X11_isUnder {d kc ks : Nat} {h0 : aH} {Q : Option aV → aH → Prop} (a0 : Int32) (a1 : Int32) (hQ : ∀ r, (∃ q, r = some (.inl (bi q))) → Q r h0) : uCall Mt (d + 3) 181 [(.inl a0), (.inl a1)] h0 kc ks Q := by
  have l_0 : ((0) : Int32).toInt = 0 := by decide
  have l_1 : ((1) : Int32).toInt = 1 := by decide
  have l_8 : ((8) : Int32).toInt = 8 := by decide
  refine uc_ink [some (.inl a0), some (.inl a1), none, none] mt_181 (Nat.le_of_ble_eq_true rfl) rfl ?_
  refine ur_ldI rfl rfl ?_
  refine ur_svIk [some (.inl a0), some (.inl a1), some (.inl a0), none] rfl rfl ?_
  refine ur_push rfl ?_
  refine ur_svIk [some (.inl a0), some (.inl a1), some (.inl a0), some (.inl 0)] rfl rfl ?_
  have L3 : ∀ (m4 : Nat) (x1 : Int32) (x2 : Int32) , ((0 ≤ x2.toInt ∧ x2.toInt ≤ 2147483647)) → ((2147483648 - x2.toInt).toNat) < m4 → uRun oX11_isUnder (uCall Mt (d + 2)) Q 4 ([some (.inl a0), some (.inl a1), some (.inl x1), some (.inl x2)], [], h0, kc, ks) := by
    intro m4
    induction m4 with
    | zero => intro x1 x2 iv6 mm7; omega
    | succ m4 ih5 =>
      intro x1 x2 iv6 mm7
      refine ur_ldI rfl rfl ?_
      refine ur_push rfl ?_
      refine ur_if2 rfl (fun c8 => ?_) (fun c8 => ?_)
      · have t9 := le_to c8
        refine ur_push rfl ?_
        exact ur_ret rfl rfl (hQ _ ⟨false, rfl⟩ )
      · have t10 := le_no c8
        refine ur_ldI rfl rfl ?_
        refine ur_if1 rfl (fun c11 => ?_) (fun c11 => ?_)
        · have t12 := lt_to c11
          refine ur_push rfl ?_
          exact ur_ret rfl rfl (hQ _ ⟨false, rfl⟩ )
        · have t13 := lt_no c11
          refine ur_ldI rfl rfl ?_
          refine ur_ldI rfl rfl ?_
          have z14 := any_r x1
          have z15 := any_r a1
          refine ur_if2 rfl (fun c16 => ?_) (fun c16 => ?_)
          · have t17 := ne_to c16
            refine ur_ldI rfl rfl ?_
            refine ur_inl rfl rfl (Nat.le_of_ble_eq_true rfl) (Nat.le_of_ble_eq_true rfl) (sf_X11_kindAbove _ (fun w18 hr19 => ?_))
            obtain ⟨x20, rfl, t21⟩ := hr19
            show uRun _ (uCall Mt _) _ 25 (_, [(.inl x20)], _, _, _)
            refine ur_svIk [some (.inl a0), some (.inl a1), some (.inl x20), some (.inl x2)] rfl rfl ?_
            refine ur_incV (fun z => [some (.inl a0), some (.inl a1), some (.inl x20), some (.inl z)]) rfl rfl (fun _ => rfl) (fun x22 e23 => ?_)
            have z24 := any_r x2
            have t25 := ti_add e23 (by omega) (by omega)
            refine ur_go rfl ?_
            have z26 := any_r x22
            exact ih5 x20 x22 (by omega) (by omega)
          · have t27 := ne_no c16
            refine ur_push rfl ?_
            exact ur_ret rfl rfl (hQ _ ⟨true, rfl⟩ )
  exact L3 _ a0 0 (by omega) (Nat.lt_succ_self _)

set_option maxRecDepth 20000 in
set_option maxHeartbeats 4000000 in
theorem sf_X7_forgetWeights {d kc ks : Nat} {h0 : aH} {Q : Option aV → aH → Prop} (hO0 : OK h0)  (hQ : ∀ r h', (r = none) → OK h' → un [45, 46] h0 h' → Q r h') : uCall Mt (d + 2) 74 [(.inr (.inr (some 41)))] h0 kc ks Q := by
  have l_m1 : ((-1) : Int32).toInt = -1 := by decide
  refine uc_ink [some (.inr (.inr (some 41)))] mt_74 (Nat.le_of_ble_eq_true rfl) rfl ?_
  refine ur_ldA rfl rfl ?_
  obtain ⟨f2, f3, hc1, k4⟩ := ok_41 hO0
  refine ur_get rfl hc1 rfl ?_
  refine ur_push rfl ?_
  obtain ⟨xs6, hc5, hn7⟩ := hO0.lon (hO0.fix 45 (by decide) rfl)
  refine ur_inl rfl rfl (Nat.le_of_ble_eq_true rfl) (Nat.le_of_ble_eq_true rfl) (sf_fillJ (W := [45, 46]) hO0 hc5 hn7 (by decide) (Or.inr (Or.inr (wid_fix (by decide) (by decide)))) (fun h10 hO10 hu10 d9 => ?_))
  show uRun _ (uCall Mt _) _ 8 (_, [], _, _, _)
  refine ur_ldA rfl rfl ?_
  refine ur_get rfl ((d9 _ (by decide)).trans hc1) rfl ?_
  refine ur_push rfl ?_
  obtain ⟨xs12, hc11, hn13, he14⟩ := hO10.int (hO10.fix 46 (by decide) rfl)
  refine ur_inl rfl rfl (Nat.le_of_ble_eq_true rfl) (Nat.le_of_ble_eq_true rfl) (sf_fillI (W := [45, 46]) hO10 hc11 hn13 (by decide) (any_w rfl _) (Or.inr (Or.inr (wid_fix (by decide) (by decide)))) (fun h16 hO16 hu16 d15 => ?_))
  show uRun _ (uCall Mt _) _ 16 (_, [], _, _, _)
  exact ur_ret0 rfl (hQ _ _ rfl hO16 (hu10.tr hu16))

set_option maxRecDepth 20000 in
set_option maxHeartbeats 4000000 in
theorem sf_X7_forgetMoves {d kc ks : Nat} {h0 : aH} {Q : Option aV → aH → Prop} (hO0 : OK h0)  (hQ : ∀ r h', (r = none) → OK h' → un [] h0 h' → Q r h') : uCall Mt (d + 2) 80 [(.inr (.inr (some 41)))] h0 kc ks Q := by
  have l_0 : ((0) : Int32).toInt = 0 := by decide
  refine uc_ink [some (.inr (.inr (some 41)))] mt_80 (Nat.le_of_ble_eq_true rfl) rfl ?_
  refine ur_ldA rfl rfl ?_
  obtain ⟨f2, f3, hc1, k4⟩ := ok_41 hO0
  refine ur_get rfl hc1 rfl ?_
  refine ur_push rfl ?_
  obtain ⟨xs6, hc5, hn7, he8⟩ := hO0.int (hO0.fix 50 (by decide) rfl)
  refine ur_inl rfl rfl (Nat.le_of_ble_eq_true rfl) (Nat.le_of_ble_eq_true rfl) (sf_fillI (W := []) hO0 hc5 hn7 (by decide) (any_w rfl _) (Or.inl rfl) (fun h10 hO10 hu10 d9 => ?_))
  show uRun _ (uCall Mt _) _ 8 (_, [], _, _, _)
  exact ur_ret0 rfl (hQ _ _ rfl hO10 hu10)

set_option maxRecDepth 20000 in
set_option maxHeartbeats 4000000 in
theorem sf_X9_takeSteps {d kc ks : Nat} {h0 : aH} {Q : Option aV → aH → Prop} (hO0 : OK h0) {a0 : Nat} (t0 : tg h0 a0 = (109, 2)) {a1 : Nat} (t1 : tg h0 a1 = (0, 128)) (a2 : Int32) (b2 : 0 ≤ a2.toInt ∧ a2.toInt ≤ 128) (hQ : ∀ r h', (r = none) → OK h' → un [10, 12, 24, 26, 28, 30, 32, 34, 36, 38, 40, 1901, 2101, 3301, 3501, 3701, 3901, 4101, 4301, 4501, 4701, 4901] h0 h' → Q r h') : uCall Mt (d + 1) 110 [(.inr (.inr (some a0))), (.inr (.inr (some a1))), (.inl a2)] h0 kc ks Q := by
  have l_0 : ((0) : Int32).toInt = 0 := by decide
  have l_128 : ((128) : Int32).toInt = 128 := by decide
  refine uc_ink [some (.inr (.inr (some a0))), some (.inr (.inr (some a1))), some (.inl a2)] mt_110 (Nat.le_of_ble_eq_true rfl) rfl ?_
  refine ur_ldA rfl rfl ?_
  refine ur_ldI rfl rfl ?_
  refine ur_ldA rfl rfl ?_
  obtain ⟨xs2, hc1, hn3, he4⟩ := hO0.int t1
  refine ur_lenV (m := 128) rfl hc1 hn3 (by decide) (fun x5 t6 => ?_)
  refine ur_push rfl ?_
  refine ur_minV rfl (by show ¬ 9 ≤ 4; decide) (fun x7 t8 e9 => ?_)
  refine ur_minV rfl (by show ¬ 9 ≤ 3; decide) (fun x10 t11 e12 => ?_)
  obtain ⟨g17, f14, hc13, k15, k16⟩ := hO0.text t0
  refine ur_putV (W := [10, 12, 24, 26, 28, 30, 32, 34, 36, 38, 40, 1901, 2101, 3301, 3501, 3701, 3901, 4101, 4301, 4501, 4701, 4901]) (fs' := [(.inr (.inr (some (a0 + 1)))), (.inl x10)]) rfl hO0 hc13 (Nat.le_of_ble_eq_true rfl) rfl rfl ⟨g17, _, rfl, k15, by omega⟩ rfl (Or.inr (wid_tx hO0 g17 t0 (by decide))) (fun h19 hO19 hu19 d18 hc20 => ?_)
  refine ur_ldA rfl rfl ?_
  refine ur_push rfl ?_
  refine ur_ldA rfl rfl ?_
  refine ur_get rfl hc20 rfl ?_
  refine ur_push rfl ?_
  refine ur_ldA rfl rfl ?_
  refine ur_get rfl hc20 rfl ?_
  obtain ⟨xs22, hc21, hn23, he24⟩ := hO19.int (hu19.tm k15 (by decide))
  refine ur_cpIV (W := [10, 12, 24, 26, 28, 30, 32, 34, 36, 38, 40, 1901, 2101, 3301, 3501, 3701, 3901, 4101, 4301, 4501, 4701, 4901]) rfl hO19 ((d18 _ (ne_tg (hu19.tm t1 (by decide)) (hu19.tm t0 (by decide)) (by decide))).trans hc1) hc21 hn3 hn23 (by omega) (Nat.le_of_ble_eq_true rfl) (rng_tx hO19 g17 (hu19.tm t0 (by decide))) (Or.inr (Or.inr (wid_tx1 hO19 g17 (hu19.tm t0 (by decide)) (by decide)))) (fun h26 hO26 hu26 d25 => ?_)
  exact ur_ret0 rfl (hQ _ _ rfl hO26 (hu19.tr hu26))

set_option maxRecDepth 20000 in
set_option maxHeartbeats 4000000 in
theorem sf_X8_readProduct {d kc ks : Nat} {h0 : aH} {Q : Option aV → aH → Prop} (n : Nat) (rec : ∀ {kc ks : Nat} {h0 : aH} {Q : Option aV → aH → Prop}, OK h0 → ∀ (a1 : Int32), (0 ≤ a1.toInt ∧ a1.toInt ≤ 6) → (6 ≤ a1.toInt + (n : Int)) → (∀ r h', (r = none) → OK h' → un [] h0 h' → Q r h') → uCall Mt (d + 4) 106 [(.inr (.inr (some 5))), (.inl a1)] h0 kc ks Q) (hO0 : OK h0) (a1 : Int32) (b1 : 0 ≤ a1.toInt ∧ a1.toInt ≤ 6) (e1 : 6 ≤ a1.toInt + (n : Int)) (hQ : ∀ r h', (r = none) → OK h' → un [] h0 h' → Q r h') : uCall Mt (d + 5) 105 [(.inr (.inr (some 5))), (.inl a1)] h0 kc ks Q := by
  have l_0 : ((0) : Int32).toInt = 0 := by decide
  have l_1 : ((1) : Int32).toInt = 1 := by decide
  have l_4 : ((4) : Int32).toInt = 4 := by decide
  have l_5 : ((5) : Int32).toInt = 5 := by decide
  have l_6 : ((6) : Int32).toInt = 6 := by decide
  have l_15 : ((15) : Int32).toInt = 15 := by decide
  have l_37 : ((37) : Int32).toInt = 37 := by decide
  have l_42 : ((42) : Int32).toInt = 42 := by decide
  have l_47 : ((47) : Int32).toInt = 47 := by decide
  refine uc_ink [some (.inr (.inr (some 5))), some (.inl a1), none, none] mt_105 (Nat.le_of_ble_eq_true rfl) rfl ?_
  refine ur_ldA rfl rfl ?_
  refine ur_ldI rfl rfl ?_
  obtain ⟨f2, f3, f4, f5, hc1, k6⟩ := ok_5 hO0
  refine ur_inl rfl (rcv_of hc1) (Nat.le_of_ble_eq_true rfl) (Nat.le_of_ble_eq_true rfl) (rec hO0 _ (by show 0 ≤ a1.toInt ∧ a1.toInt ≤ 6; omega) (by show 6 ≤ a1.toInt + (n : Int); omega) (fun w7 h9 hr8 hO9 hv9 => ?_))
  have hu9 := hv9
  subst hr8
  show uRun _ (uCall Mt _) _ 5 (_, [], _, _, _)
  refine ur_push rfl ?_
  refine ur_svIk [some (.inr (.inr (some 5))), some (.inl a1), some (.inl 0), none] rfl rfl ?_
  have L12 : ∀ (m13 : Nat) (x10 : Int32) (u11 : Option aV) (h15 : aH) , OK h15 → un [] h9 h15 → ((0 ≤ x10.toInt ∧ x10.toInt ≤ 2147483647)) → ((2147483648 - x10.toInt).toNat) < m13 → uRun oX8_readProduct (uCall Mt (d + 4)) Q 7 ([some (.inr (.inr (some 5))), some (.inl a1), some (.inl x10), u11], [], h15, kc, ks) := by
    intro m13
    induction m13 with
    | zero => intro x10 u11 h15 hO15 hu15 iv16 mm17; omega
    | succ m13 ih14 =>
      intro x10 u11 h15 hO15 hu15 iv16 mm17
      refine ur_ldI rfl rfl ?_
      refine ur_ldA rfl rfl ?_
      obtain ⟨f19, f20, f21, f22, hc18, k23⟩ := ok_5 hO15
      refine ur_get rfl hc18 rfl ?_
      have z24 := any_r x10
      have z25 := any_r f19
      refine ur_if2 rfl (fun c26 => ?_) (fun c26 => ?_)
      · have t27 := le_to c26
        exact ur_ret0 rfl (hQ _ _ rfl hO15 (hu9.tr hu15))
      · have t28 := le_no c26
        refine ur_ldA rfl rfl ?_
        refine ur_push rfl ?_
        refine ur_inl rfl (rcv_of hc18) (Nat.le_of_ble_eq_true rfl) (Nat.le_of_ble_eq_true rfl) (sf_X8_isGoingOn hO15 _ (fun w29 h31 hr30 hO31 hv31 => ?_))
        have hu31 := hv31
        obtain ⟨b32, rfl⟩ := hr30
        show uRun _ (uCall Mt _) _ 21 (_, [(.inl (bi b32))], _, _, _)
        refine ur_eqB rfl (fun c33 => ?_) (fun c33 => ?_)
        · refine ur_ldA rfl rfl ?_
          refine ur_push rfl ?_
          obtain ⟨f35, f36, f37, f38, hc34, k39⟩ := ok_5 hO31
          refine ur_inl rfl (rcv_of hc34) (Nat.le_of_ble_eq_true rfl) (Nat.le_of_ble_eq_true rfl) (sf_X8_isGoingOn hO31 _ (fun w40 h42 hr41 hO42 hv42 => ?_))
          have hu42 := hv42
          obtain ⟨b43, rfl⟩ := hr41
          show uRun _ (uCall Mt _) _ 34 (_, [(.inl (bi b43))], _, _, _)
          refine ur_eqB rfl (fun c44 => ?_) (fun c44 => ?_)
          · refine ur_ldA rfl rfl ?_
            refine ur_push rfl ?_
            obtain ⟨f46, f47, f48, f49, hc45, k50⟩ := ok_5 hO42
            refine ur_inl rfl (rcv_of hc45) (Nat.le_of_ble_eq_true rfl) (Nat.le_of_ble_eq_true rfl) (sf_X8_isGoingOn hO42 _ (fun w51 h53 hr52 hO53 hv53 => ?_))
            have hu53 := hv53
            obtain ⟨b54, rfl⟩ := hr52
            show uRun _ (uCall Mt _) _ 47 (_, [(.inl (bi b54))], _, _, _)
            refine ur_eqB rfl (fun c55 => ?_) (fun c55 => ?_)
            · refine ur_push rfl ?_
              refine ur_svIk [some (.inr (.inr (some 5))), some (.inl a1), some (.inl x10), some (.inl 15)] rfl rfl ?_
              refine ur_ldI rfl rfl ?_
              refine ur_push rfl ?_
              refine ur_if2f rfl (by decide) ?_
              exact ur_ret0 rfl (hQ _ _ rfl hO53 (hu9.tr (hu15.tr (hu31.tr (hu42.tr hu53)))))
            · refine ur_push rfl ?_
              refine ur_go rfl ?_
              refine ur_svIk [some (.inr (.inr (some 5))), some (.inl a1), some (.inl x10), some (.inl 6)] rfl rfl ?_
              refine ur_ldI rfl rfl ?_
              refine ur_push rfl ?_
              refine ur_if2t rfl (by decide) ?_
              refine ur_ldA rfl rfl ?_
              refine ur_ldI rfl rfl ?_
              obtain ⟨f57, f58, f59, f60, hc56, k61⟩ := ok_5 hO53
              refine ur_inl rfl (rcv_of hc56) (Nat.le_of_ble_eq_true rfl) (Nat.le_of_ble_eq_true rfl) (rec hO53 _ (by show 0 ≤ a1.toInt ∧ a1.toInt ≤ 6; omega) (by show 6 ≤ a1.toInt + (n : Int); omega) (fun w62 h64 hr63 hO64 hv64 => ?_))
              have hu64 := hv64
              subst hr63
              show uRun _ (uCall Mt _) _ 70 (_, [], _, _, _)
              refine ur_ldA rfl rfl ?_
              refine ur_ldI rfl rfl ?_
              refine ur_push rfl ?_
              obtain ⟨f66, f67, f68, f69, hc65, k70⟩ := ok_5 hO64
              refine ur_inl rfl (rcv_of hc65) (Nat.le_of_ble_eq_true rfl) (Nat.le_of_ble_eq_true rfl) (sf_X8_add hO64 _ _ (fun w71 h73 hr72 hO73 hv73 => ?_))
              have hu73 := hv73
              subst hr72
              show uRun _ (uCall Mt _) _ 76 (_, [], _, _, _)
              refine ur_incV (fun z => [some (.inr (.inr (some 5))), some (.inl a1), some (.inl z), some (.inl 6)]) rfl rfl (fun _ => rfl) (fun x74 e75 => ?_)
              have t76 := ti_add e75 (by omega) (by omega)
              refine ur_go rfl ?_
              have z77 := any_r x74
              exact ih14 x74 _ _ hO73 (hu15.tr (hu31.tr (hu42.tr (hu53.tr (hu64.tr hu73))))) (by omega) (by omega)
          · refine ur_push rfl ?_
            refine ur_go rfl ?_
            refine ur_svIk [some (.inr (.inr (some 5))), some (.inl a1), some (.inl x10), some (.inl 5)] rfl rfl ?_
            refine ur_ldI rfl rfl ?_
            refine ur_push rfl ?_
            refine ur_if2t rfl (by decide) ?_
            refine ur_ldA rfl rfl ?_
            refine ur_ldI rfl rfl ?_
            obtain ⟨f79, f80, f81, f82, hc78, k83⟩ := ok_5 hO42
            refine ur_inl rfl (rcv_of hc78) (Nat.le_of_ble_eq_true rfl) (Nat.le_of_ble_eq_true rfl) (rec hO42 _ (by show 0 ≤ a1.toInt ∧ a1.toInt ≤ 6; omega) (by show 6 ≤ a1.toInt + (n : Int); omega) (fun w84 h86 hr85 hO86 hv86 => ?_))
            have hu86 := hv86
            subst hr85
            show uRun _ (uCall Mt _) _ 70 (_, [], _, _, _)
            refine ur_ldA rfl rfl ?_
            refine ur_ldI rfl rfl ?_
            refine ur_push rfl ?_
            obtain ⟨f88, f89, f90, f91, hc87, k92⟩ := ok_5 hO86
            refine ur_inl rfl (rcv_of hc87) (Nat.le_of_ble_eq_true rfl) (Nat.le_of_ble_eq_true rfl) (sf_X8_add hO86 _ _ (fun w93 h95 hr94 hO95 hv95 => ?_))
            have hu95 := hv95
            subst hr94
            show uRun _ (uCall Mt _) _ 76 (_, [], _, _, _)
            refine ur_incV (fun z => [some (.inr (.inr (some 5))), some (.inl a1), some (.inl z), some (.inl 5)]) rfl rfl (fun _ => rfl) (fun x96 e97 => ?_)
            have t98 := ti_add e97 (by omega) (by omega)
            refine ur_go rfl ?_
            have z99 := any_r x96
            exact ih14 x96 _ _ hO95 (hu15.tr (hu31.tr (hu42.tr (hu86.tr hu95)))) (by omega) (by omega)
        · refine ur_push rfl ?_
          refine ur_go rfl ?_
          refine ur_svIk [some (.inr (.inr (some 5))), some (.inl a1), some (.inl x10), some (.inl 4)] rfl rfl ?_
          refine ur_ldI rfl rfl ?_
          refine ur_push rfl ?_
          refine ur_if2t rfl (by decide) ?_
          refine ur_ldA rfl rfl ?_
          refine ur_ldI rfl rfl ?_
          obtain ⟨f101, f102, f103, f104, hc100, k105⟩ := ok_5 hO31
          refine ur_inl rfl (rcv_of hc100) (Nat.le_of_ble_eq_true rfl) (Nat.le_of_ble_eq_true rfl) (rec hO31 _ (by show 0 ≤ a1.toInt ∧ a1.toInt ≤ 6; omega) (by show 6 ≤ a1.toInt + (n : Int); omega) (fun w106 h108 hr107 hO108 hv108 => ?_))
          have hu108 := hv108
          subst hr107
          show uRun _ (uCall Mt _) _ 70 (_, [], _, _, _)
          refine ur_ldA rfl rfl ?_
          refine ur_ldI rfl rfl ?_
          refine ur_push rfl ?_
          obtain ⟨f110, f111, f112, f113, hc109, k114⟩ := ok_5 hO108
          refine ur_inl rfl (rcv_of hc109) (Nat.le_of_ble_eq_true rfl) (Nat.le_of_ble_eq_true rfl) (sf_X8_add hO108 _ _ (fun w115 h117 hr116 hO117 hv117 => ?_))
          have hu117 := hv117
          subst hr116
          show uRun _ (uCall Mt _) _ 76 (_, [], _, _, _)
          refine ur_incV (fun z => [some (.inr (.inr (some 5))), some (.inl a1), some (.inl z), some (.inl 4)]) rfl rfl (fun _ => rfl) (fun x118 e119 => ?_)
          have t120 := ti_add e119 (by omega) (by omega)
          refine ur_go rfl ?_
          have z121 := any_r x118
          exact ih14 x118 _ _ hO117 (hu15.tr (hu31.tr (hu108.tr hu117))) (by omega) (by omega)
  exact L12 _ 0 (none) _ hO9 un.rf (by omega) (Nat.lt_succ_self _)

set_option maxRecDepth 20000 in
set_option maxHeartbeats 4000000 in
theorem sf_X8_readSum {d kc ks : Nat} {h0 : aH} {Q : Option aV → aH → Prop} (n : Nat) (rec : ∀ {kc ks : Nat} {h0 : aH} {Q : Option aV → aH → Prop}, OK h0 → ∀ (a1 : Int32), (0 ≤ a1.toInt ∧ a1.toInt ≤ 6) → (6 ≤ a1.toInt + (n : Int)) → (∀ r h', (r = none) → OK h' → un [] h0 h' → Q r h') → uCall Mt (d + 4) 106 [(.inr (.inr (some 5))), (.inl a1)] h0 kc ks Q) (hO0 : OK h0) (a1 : Int32) (b1 : 0 ≤ a1.toInt ∧ a1.toInt ≤ 6) (e1 : 6 ≤ a1.toInt + (n : Int)) (hQ : ∀ r h', (r = none) → OK h' → un [] h0 h' → Q r h') : uCall Mt (d + 6) 104 [(.inr (.inr (some 5))), (.inl a1)] h0 kc ks Q := by
  have l_0 : ((0) : Int32).toInt = 0 := by decide
  have l_1 : ((1) : Int32).toInt = 1 := by decide
  have l_7 : ((7) : Int32).toInt = 7 := by decide
  have l_8 : ((8) : Int32).toInt = 8 := by decide
  have l_15 : ((15) : Int32).toInt = 15 := by decide
  have l_43 : ((43) : Int32).toInt = 43 := by decide
  have l_45 : ((45) : Int32).toInt = 45 := by decide
  refine uc_ink [some (.inr (.inr (some 5))), some (.inl a1), none, none] mt_104 (Nat.le_of_ble_eq_true rfl) rfl ?_
  refine ur_ldA rfl rfl ?_
  refine ur_ldI rfl rfl ?_
  obtain ⟨f2, f3, f4, f5, hc1, k6⟩ := ok_5 hO0
  refine ur_inl rfl (rcv_of hc1) (Nat.le_of_ble_eq_true rfl) (Nat.le_of_ble_eq_true rfl) (sf_X8_readProduct n rec hO0 _ (by show 0 ≤ a1.toInt ∧ a1.toInt ≤ 6; omega) (by show 6 ≤ a1.toInt + (n : Int); omega) (fun w7 h9 hr8 hO9 hv9 => ?_))
  have hu9 := hv9
  subst hr8
  show uRun _ (uCall Mt _) _ 5 (_, [], _, _, _)
  refine ur_push rfl ?_
  refine ur_svIk [some (.inr (.inr (some 5))), some (.inl a1), some (.inl 0), none] rfl rfl ?_
  have L12 : ∀ (m13 : Nat) (x10 : Int32) (u11 : Option aV) (h15 : aH) , OK h15 → un [] h9 h15 → ((0 ≤ x10.toInt ∧ x10.toInt ≤ 2147483647)) → ((2147483648 - x10.toInt).toNat) < m13 → uRun oX8_readSum (uCall Mt (d + 5)) Q 7 ([some (.inr (.inr (some 5))), some (.inl a1), some (.inl x10), u11], [], h15, kc, ks) := by
    intro m13
    induction m13 with
    | zero => intro x10 u11 h15 hO15 hu15 iv16 mm17; omega
    | succ m13 ih14 =>
      intro x10 u11 h15 hO15 hu15 iv16 mm17
      refine ur_ldI rfl rfl ?_
      refine ur_ldA rfl rfl ?_
      obtain ⟨f19, f20, f21, f22, hc18, k23⟩ := ok_5 hO15
      refine ur_get rfl hc18 rfl ?_
      have z24 := any_r x10
      have z25 := any_r f19
      refine ur_if2 rfl (fun c26 => ?_) (fun c26 => ?_)
      · have t27 := le_to c26
        exact ur_ret0 rfl (hQ _ _ rfl hO15 (hu9.tr hu15))
      · have t28 := le_no c26
        refine ur_ldA rfl rfl ?_
        refine ur_push rfl ?_
        refine ur_inl rfl (rcv_of hc18) (Nat.le_of_ble_eq_true rfl) (Nat.le_of_ble_eq_true rfl) (sf_X8_isGoingOn hO15 _ (fun w29 h31 hr30 hO31 hv31 => ?_))
        have hu31 := hv31
        obtain ⟨b32, rfl⟩ := hr30
        show uRun _ (uCall Mt _) _ 21 (_, [(.inl (bi b32))], _, _, _)
        refine ur_eqB rfl (fun c33 => ?_) (fun c33 => ?_)
        · refine ur_ldA rfl rfl ?_
          refine ur_push rfl ?_
          obtain ⟨f35, f36, f37, f38, hc34, k39⟩ := ok_5 hO31
          refine ur_inl rfl (rcv_of hc34) (Nat.le_of_ble_eq_true rfl) (Nat.le_of_ble_eq_true rfl) (sf_X8_isGoingOn hO31 _ (fun w40 h42 hr41 hO42 hv42 => ?_))
          have hu42 := hv42
          obtain ⟨b43, rfl⟩ := hr41
          show uRun _ (uCall Mt _) _ 35 (_, [(.inl (bi b43))], _, _, _)
          refine ur_eqB rfl (fun c44 => ?_) (fun c44 => ?_)
          · refine ur_push rfl ?_
            refine ur_svIk [some (.inr (.inr (some 5))), some (.inl a1), some (.inl x10), some (.inl 15)] rfl rfl ?_
            refine ur_ldI rfl rfl ?_
            refine ur_push rfl ?_
            refine ur_if2f rfl (by decide) ?_
            exact ur_ret0 rfl (hQ _ _ rfl hO42 (hu9.tr (hu15.tr (hu31.tr hu42))))
          · refine ur_push rfl ?_
            refine ur_go rfl ?_
            refine ur_svIk [some (.inr (.inr (some 5))), some (.inl a1), some (.inl x10), some (.inl 8)] rfl rfl ?_
            refine ur_ldI rfl rfl ?_
            refine ur_push rfl ?_
            refine ur_if2t rfl (by decide) ?_
            refine ur_ldA rfl rfl ?_
            refine ur_ldI rfl rfl ?_
            obtain ⟨f46, f47, f48, f49, hc45, k50⟩ := ok_5 hO42
            refine ur_inl rfl (rcv_of hc45) (Nat.le_of_ble_eq_true rfl) (Nat.le_of_ble_eq_true rfl) (sf_X8_readProduct n rec hO42 _ (by show 0 ≤ a1.toInt ∧ a1.toInt ≤ 6; omega) (by show 6 ≤ a1.toInt + (n : Int); omega) (fun w51 h53 hr52 hO53 hv53 => ?_))
            have hu53 := hv53
            subst hr52
            show uRun _ (uCall Mt _) _ 58 (_, [], _, _, _)
            refine ur_ldA rfl rfl ?_
            refine ur_ldI rfl rfl ?_
            refine ur_push rfl ?_
            obtain ⟨f55, f56, f57, f58, hc54, k59⟩ := ok_5 hO53
            refine ur_inl rfl (rcv_of hc54) (Nat.le_of_ble_eq_true rfl) (Nat.le_of_ble_eq_true rfl) (sf_X8_add hO53 _ _ (fun w60 h62 hr61 hO62 hv62 => ?_))
            have hu62 := hv62
            subst hr61
            show uRun _ (uCall Mt _) _ 64 (_, [], _, _, _)
            refine ur_incV (fun z => [some (.inr (.inr (some 5))), some (.inl a1), some (.inl z), some (.inl 8)]) rfl rfl (fun _ => rfl) (fun x63 e64 => ?_)
            have t65 := ti_add e64 (by omega) (by omega)
            refine ur_go rfl ?_
            have z66 := any_r x63
            exact ih14 x63 _ _ hO62 (hu15.tr (hu31.tr (hu42.tr (hu53.tr hu62)))) (by omega) (by omega)
        · refine ur_push rfl ?_
          refine ur_go rfl ?_
          refine ur_svIk [some (.inr (.inr (some 5))), some (.inl a1), some (.inl x10), some (.inl 7)] rfl rfl ?_
          refine ur_ldI rfl rfl ?_
          refine ur_push rfl ?_
          refine ur_if2t rfl (by decide) ?_
          refine ur_ldA rfl rfl ?_
          refine ur_ldI rfl rfl ?_
          obtain ⟨f68, f69, f70, f71, hc67, k72⟩ := ok_5 hO31
          refine ur_inl rfl (rcv_of hc67) (Nat.le_of_ble_eq_true rfl) (Nat.le_of_ble_eq_true rfl) (sf_X8_readProduct n rec hO31 _ (by show 0 ≤ a1.toInt ∧ a1.toInt ≤ 6; omega) (by show 6 ≤ a1.toInt + (n : Int); omega) (fun w73 h75 hr74 hO75 hv75 => ?_))
          have hu75 := hv75
          subst hr74
          show uRun _ (uCall Mt _) _ 58 (_, [], _, _, _)
          refine ur_ldA rfl rfl ?_
          refine ur_ldI rfl rfl ?_
          refine ur_push rfl ?_
          obtain ⟨f77, f78, f79, f80, hc76, k81⟩ := ok_5 hO75
          refine ur_inl rfl (rcv_of hc76) (Nat.le_of_ble_eq_true rfl) (Nat.le_of_ble_eq_true rfl) (sf_X8_add hO75 _ _ (fun w82 h84 hr83 hO84 hv84 => ?_))
          have hu84 := hv84
          subst hr83
          show uRun _ (uCall Mt _) _ 64 (_, [], _, _, _)
          refine ur_incV (fun z => [some (.inr (.inr (some 5))), some (.inl a1), some (.inl z), some (.inl 7)]) rfl rfl (fun _ => rfl) (fun x85 e86 => ?_)
          have t87 := ti_add e86 (by omega) (by omega)
          refine ur_go rfl ?_
          have z88 := any_r x85
          exact ih14 x85 _ _ hO84 (hu15.tr (hu31.tr (hu75.tr hu84))) (by omega) (by omega)
  exact L12 _ 0 (none) _ hO9 un.rf (by omega) (Nat.lt_succ_self _)

set_option maxRecDepth 20000 in
set_option maxHeartbeats 4000000 in
theorem sf_X8_readCompared {d kc ks : Nat} {h0 : aH} {Q : Option aV → aH → Prop} (n : Nat) (rec : ∀ {kc ks : Nat} {h0 : aH} {Q : Option aV → aH → Prop}, OK h0 → ∀ (a1 : Int32), (0 ≤ a1.toInt ∧ a1.toInt ≤ 6) → (6 ≤ a1.toInt + (n : Int)) → (∀ r h', (r = none) → OK h' → un [] h0 h' → Q r h') → uCall Mt (d + 4) 106 [(.inr (.inr (some 5))), (.inl a1)] h0 kc ks Q) (hO0 : OK h0) (a1 : Int32) (b1 : 0 ≤ a1.toInt ∧ a1.toInt ≤ 6) (e1 : 6 ≤ a1.toInt + (n : Int)) (hQ : ∀ r h', (r = none) → OK h' → un [] h0 h' → Q r h') : uCall Mt (d + 7) 103 [(.inr (.inr (some 5))), (.inl a1)] h0 kc ks Q := by
  have l_0 : ((0) : Int32).toInt = 0 := by decide
  have l_9 : ((9) : Int32).toInt = 9 := by decide
  have l_10 : ((10) : Int32).toInt = 10 := by decide
  have l_11 : ((11) : Int32).toInt = 11 := by decide
  have l_15 : ((15) : Int32).toInt = 15 := by decide
  have l_60 : ((60) : Int32).toInt = 60 := by decide
  have l_61 : ((61) : Int32).toInt = 61 := by decide
  have l_62 : ((62) : Int32).toInt = 62 := by decide
  refine uc_ink [some (.inr (.inr (some 5))), some (.inl a1), none] mt_103 (Nat.le_of_ble_eq_true rfl) rfl ?_
  refine ur_ldA rfl rfl ?_
  refine ur_ldI rfl rfl ?_
  obtain ⟨f2, f3, f4, f5, hc1, k6⟩ := ok_5 hO0
  refine ur_inl rfl (rcv_of hc1) (Nat.le_of_ble_eq_true rfl) (Nat.le_of_ble_eq_true rfl) (sf_X8_readSum n rec hO0 _ (by show 0 ≤ a1.toInt ∧ a1.toInt ≤ 6; omega) (by show 6 ≤ a1.toInt + (n : Int); omega) (fun w7 h9 hr8 hO9 hv9 => ?_))
  have hu9 := hv9
  subst hr8
  show uRun _ (uCall Mt _) _ 5 (_, [], _, _, _)
  refine ur_ldA rfl rfl ?_
  refine ur_push rfl ?_
  obtain ⟨f11, f12, f13, f14, hc10, k15⟩ := ok_5 hO9
  refine ur_inl rfl (rcv_of hc10) (Nat.le_of_ble_eq_true rfl) (Nat.le_of_ble_eq_true rfl) (sf_X8_isGoingOn hO9 _ (fun w16 h18 hr17 hO18 hv18 => ?_))
  have hu18 := hv18
  obtain ⟨b19, rfl⟩ := hr17
  show uRun _ (uCall Mt _) _ 11 (_, [(.inl (bi b19))], _, _, _)
  refine ur_eqB rfl (fun c20 => ?_) (fun c20 => ?_)
  · refine ur_ldA rfl rfl ?_
    refine ur_push rfl ?_
    obtain ⟨f22, f23, f24, f25, hc21, k26⟩ := ok_5 hO18
    refine ur_inl rfl (rcv_of hc21) (Nat.le_of_ble_eq_true rfl) (Nat.le_of_ble_eq_true rfl) (sf_X8_isGoingOn hO18 _ (fun w27 h29 hr28 hO29 hv29 => ?_))
    have hu29 := hv29
    obtain ⟨b30, rfl⟩ := hr28
    show uRun _ (uCall Mt _) _ 25 (_, [(.inl (bi b30))], _, _, _)
    refine ur_eqB rfl (fun c31 => ?_) (fun c31 => ?_)
    · refine ur_ldA rfl rfl ?_
      refine ur_push rfl ?_
      obtain ⟨f33, f34, f35, f36, hc32, k37⟩ := ok_5 hO29
      refine ur_inl rfl (rcv_of hc32) (Nat.le_of_ble_eq_true rfl) (Nat.le_of_ble_eq_true rfl) (sf_X8_isGoingOn hO29 _ (fun w38 h40 hr39 hO40 hv40 => ?_))
      have hu40 := hv40
      obtain ⟨b41, rfl⟩ := hr39
      show uRun _ (uCall Mt _) _ 39 (_, [(.inl (bi b41))], _, _, _)
      refine ur_eqB rfl (fun c42 => ?_) (fun c42 => ?_)
      · refine ur_push rfl ?_
        refine ur_svIk [some (.inr (.inr (some 5))), some (.inl a1), some (.inl 15)] rfl rfl ?_
        refine ur_ldI rfl rfl ?_
        refine ur_push rfl ?_
        refine ur_if2f rfl (by decide) ?_
        exact ur_ret0 rfl (hQ _ _ rfl hO40 (hu9.tr (hu18.tr (hu29.tr hu40))))
      · refine ur_push rfl ?_
        refine ur_go rfl ?_
        refine ur_svIk [some (.inr (.inr (some 5))), some (.inl a1), some (.inl 11)] rfl rfl ?_
        refine ur_ldI rfl rfl ?_
        refine ur_push rfl ?_
        refine ur_if2t rfl (by decide) ?_
        refine ur_ldA rfl rfl ?_
        refine ur_ldI rfl rfl ?_
        obtain ⟨f44, f45, f46, f47, hc43, k48⟩ := ok_5 hO40
        refine ur_inl rfl (rcv_of hc43) (Nat.le_of_ble_eq_true rfl) (Nat.le_of_ble_eq_true rfl) (sf_X8_readSum n rec hO40 _ (by show 0 ≤ a1.toInt ∧ a1.toInt ≤ 6; omega) (by show 6 ≤ a1.toInt + (n : Int); omega) (fun w49 h51 hr50 hO51 hv51 => ?_))
        have hu51 := hv51
        subst hr50
        show uRun _ (uCall Mt _) _ 62 (_, [], _, _, _)
        refine ur_ldA rfl rfl ?_
        refine ur_ldI rfl rfl ?_
        refine ur_push rfl ?_
        obtain ⟨f53, f54, f55, f56, hc52, k57⟩ := ok_5 hO51
        refine ur_inl rfl (rcv_of hc52) (Nat.le_of_ble_eq_true rfl) (Nat.le_of_ble_eq_true rfl) (sf_X8_add hO51 _ _ (fun w58 h60 hr59 hO60 hv60 => ?_))
        have hu60 := hv60
        subst hr59
        show uRun _ (uCall Mt _) _ 68 (_, [], _, _, _)
        exact ur_ret0 rfl (hQ _ _ rfl hO60 (hu9.tr (hu18.tr (hu29.tr (hu40.tr (hu51.tr hu60))))))
    · refine ur_push rfl ?_
      refine ur_go rfl ?_
      refine ur_svIk [some (.inr (.inr (some 5))), some (.inl a1), some (.inl 10)] rfl rfl ?_
      refine ur_ldI rfl rfl ?_
      refine ur_push rfl ?_
      refine ur_if2t rfl (by decide) ?_
      refine ur_ldA rfl rfl ?_
      refine ur_ldI rfl rfl ?_
      obtain ⟨f62, f63, f64, f65, hc61, k66⟩ := ok_5 hO29
      refine ur_inl rfl (rcv_of hc61) (Nat.le_of_ble_eq_true rfl) (Nat.le_of_ble_eq_true rfl) (sf_X8_readSum n rec hO29 _ (by show 0 ≤ a1.toInt ∧ a1.toInt ≤ 6; omega) (by show 6 ≤ a1.toInt + (n : Int); omega) (fun w67 h69 hr68 hO69 hv69 => ?_))
      have hu69 := hv69
      subst hr68
      show uRun _ (uCall Mt _) _ 62 (_, [], _, _, _)
      refine ur_ldA rfl rfl ?_
      refine ur_ldI rfl rfl ?_
      refine ur_push rfl ?_
      obtain ⟨f71, f72, f73, f74, hc70, k75⟩ := ok_5 hO69
      refine ur_inl rfl (rcv_of hc70) (Nat.le_of_ble_eq_true rfl) (Nat.le_of_ble_eq_true rfl) (sf_X8_add hO69 _ _ (fun w76 h78 hr77 hO78 hv78 => ?_))
      have hu78 := hv78
      subst hr77
      show uRun _ (uCall Mt _) _ 68 (_, [], _, _, _)
      exact ur_ret0 rfl (hQ _ _ rfl hO78 (hu9.tr (hu18.tr (hu29.tr (hu69.tr hu78)))))
  · refine ur_push rfl ?_
    refine ur_go rfl ?_
    refine ur_svIk [some (.inr (.inr (some 5))), some (.inl a1), some (.inl 9)] rfl rfl ?_
    refine ur_ldI rfl rfl ?_
    refine ur_push rfl ?_
    refine ur_if2t rfl (by decide) ?_
    refine ur_ldA rfl rfl ?_
    refine ur_ldI rfl rfl ?_
    obtain ⟨f80, f81, f82, f83, hc79, k84⟩ := ok_5 hO18
    refine ur_inl rfl (rcv_of hc79) (Nat.le_of_ble_eq_true rfl) (Nat.le_of_ble_eq_true rfl) (sf_X8_readSum n rec hO18 _ (by show 0 ≤ a1.toInt ∧ a1.toInt ≤ 6; omega) (by show 6 ≤ a1.toInt + (n : Int); omega) (fun w85 h87 hr86 hO87 hv87 => ?_))
    have hu87 := hv87
    subst hr86
    show uRun _ (uCall Mt _) _ 62 (_, [], _, _, _)
    refine ur_ldA rfl rfl ?_
    refine ur_ldI rfl rfl ?_
    refine ur_push rfl ?_
    obtain ⟨f89, f90, f91, f92, hc88, k93⟩ := ok_5 hO87
    refine ur_inl rfl (rcv_of hc88) (Nat.le_of_ble_eq_true rfl) (Nat.le_of_ble_eq_true rfl) (sf_X8_add hO87 _ _ (fun w94 h96 hr95 hO96 hv96 => ?_))
    have hu96 := hv96
    subst hr95
    show uRun _ (uCall Mt _) _ 68 (_, [], _, _, _)
    exact ur_ret0 rfl (hQ _ _ rfl hO96 (hu9.tr (hu18.tr (hu87.tr hu96))))

set_option maxRecDepth 20000 in
set_option maxHeartbeats 4000000 in
theorem sf_X8_readBoth {d kc ks : Nat} {h0 : aH} {Q : Option aV → aH → Prop} (n : Nat) (rec : ∀ {kc ks : Nat} {h0 : aH} {Q : Option aV → aH → Prop}, OK h0 → ∀ (a1 : Int32), (0 ≤ a1.toInt ∧ a1.toInt ≤ 6) → (6 ≤ a1.toInt + (n : Int)) → (∀ r h', (r = none) → OK h' → un [] h0 h' → Q r h') → uCall Mt (d + 4) 106 [(.inr (.inr (some 5))), (.inl a1)] h0 kc ks Q) (hO0 : OK h0) (a1 : Int32) (b1 : 0 ≤ a1.toInt ∧ a1.toInt ≤ 6) (e1 : 6 ≤ a1.toInt + (n : Int)) (hQ : ∀ r h', (r = none) → OK h' → un [] h0 h' → Q r h') : uCall Mt (d + 8) 102 [(.inr (.inr (some 5))), (.inl a1)] h0 kc ks Q := by
  have l_0 : ((0) : Int32).toInt = 0 := by decide
  have l_1 : ((1) : Int32).toInt = 1 := by decide
  have l_12 : ((12) : Int32).toInt = 12 := by decide
  have l_38 : ((38) : Int32).toInt = 38 := by decide
  refine uc_ink [some (.inr (.inr (some 5))), some (.inl a1), none] mt_102 (Nat.le_of_ble_eq_true rfl) rfl ?_
  refine ur_ldA rfl rfl ?_
  refine ur_ldI rfl rfl ?_
  obtain ⟨f2, f3, f4, f5, hc1, k6⟩ := ok_5 hO0
  refine ur_inl rfl (rcv_of hc1) (Nat.le_of_ble_eq_true rfl) (Nat.le_of_ble_eq_true rfl) (sf_X8_readCompared n rec hO0 _ (by show 0 ≤ a1.toInt ∧ a1.toInt ≤ 6; omega) (by show 6 ≤ a1.toInt + (n : Int); omega) (fun w7 h9 hr8 hO9 hv9 => ?_))
  have hu9 := hv9
  subst hr8
  show uRun _ (uCall Mt _) _ 5 (_, [], _, _, _)
  refine ur_push rfl ?_
  refine ur_svIk [some (.inr (.inr (some 5))), some (.inl a1), some (.inl 0)] rfl rfl ?_
  have L11 : ∀ (m12 : Nat) (x10 : Int32) (h14 : aH) , OK h14 → un [] h9 h14 → ((0 ≤ x10.toInt ∧ x10.toInt ≤ 2147483647)) → ((2147483648 - x10.toInt).toNat) < m12 → uRun oX8_readBoth (uCall Mt (d + 7)) Q 7 ([some (.inr (.inr (some 5))), some (.inl a1), some (.inl x10)], [], h14, kc, ks) := by
    intro m12
    induction m12 with
    | zero => intro x10 h14 hO14 hu14 iv15 mm16; omega
    | succ m12 ih13 =>
      intro x10 h14 hO14 hu14 iv15 mm16
      refine ur_ldI rfl rfl ?_
      refine ur_ldA rfl rfl ?_
      obtain ⟨f18, f19, f20, f21, hc17, k22⟩ := ok_5 hO14
      refine ur_get rfl hc17 rfl ?_
      have z23 := any_r x10
      have z24 := any_r f18
      refine ur_if2 rfl (fun c25 => ?_) (fun c25 => ?_)
      · have t26 := le_to c25
        exact ur_ret0 rfl (hQ _ _ rfl hO14 (hu9.tr hu14))
      · have t27 := le_no c25
        refine ur_ldA rfl rfl ?_
        refine ur_push rfl ?_
        refine ur_inl rfl (rcv_of hc17) (Nat.le_of_ble_eq_true rfl) (Nat.le_of_ble_eq_true rfl) (sf_X8_isGoingOn hO14 _ (fun w28 h30 hr29 hO30 hv30 => ?_))
        have hu30 := hv30
        obtain ⟨b31, rfl⟩ := hr29
        show uRun _ (uCall Mt _) _ 21 (_, [(.inl (bi b31))], _, _, _)
        refine ur_eqB rfl (fun c32 => ?_) (fun c32 => ?_)
        · exact ur_ret0 rfl (hQ _ _ rfl hO30 (hu9.tr (hu14.tr hu30)))
        · refine ur_ldA rfl rfl ?_
          refine ur_ldI rfl rfl ?_
          obtain ⟨f34, f35, f36, f37, hc33, k38⟩ := ok_5 hO30
          refine ur_inl rfl (rcv_of hc33) (Nat.le_of_ble_eq_true rfl) (Nat.le_of_ble_eq_true rfl) (sf_X8_readCompared n rec hO30 _ (by show 0 ≤ a1.toInt ∧ a1.toInt ≤ 6; omega) (by show 6 ≤ a1.toInt + (n : Int); omega) (fun w39 h41 hr40 hO41 hv41 => ?_))
          have hu41 := hv41
          subst hr40
          show uRun _ (uCall Mt _) _ 29 (_, [], _, _, _)
          refine ur_ldA rfl rfl ?_
          refine ur_push rfl ?_
          refine ur_push rfl ?_
          obtain ⟨f43, f44, f45, f46, hc42, k47⟩ := ok_5 hO41
          refine ur_inl rfl (rcv_of hc42) (Nat.le_of_ble_eq_true rfl) (Nat.le_of_ble_eq_true rfl) (sf_X8_add hO41 _ _ (fun w48 h50 hr49 hO50 hv50 => ?_))
          have hu50 := hv50
          subst hr49
          show uRun _ (uCall Mt _) _ 36 (_, [], _, _, _)
          refine ur_incV (fun z => [some (.inr (.inr (some 5))), some (.inl a1), some (.inl z)]) rfl rfl (fun _ => rfl) (fun x51 e52 => ?_)
          have t53 := ti_add e52 (by omega) (by omega)
          refine ur_go rfl ?_
          have z54 := any_r x51
          exact ih13 x51 _ hO50 (hu14.tr (hu30.tr (hu41.tr hu50))) (by omega) (by omega)
  exact L11 _ 0 _ hO9 un.rf (by omega) (Nat.lt_succ_self _)

set_option maxRecDepth 20000 in
set_option maxHeartbeats 4000000 in
theorem sf_X8_readEither {d kc ks : Nat} {h0 : aH} {Q : Option aV → aH → Prop} (n : Nat) (rec : ∀ {kc ks : Nat} {h0 : aH} {Q : Option aV → aH → Prop}, OK h0 → ∀ (a1 : Int32), (0 ≤ a1.toInt ∧ a1.toInt ≤ 6) → (6 ≤ a1.toInt + (n : Int)) → (∀ r h', (r = none) → OK h' → un [] h0 h' → Q r h') → uCall Mt (d + 4) 106 [(.inr (.inr (some 5))), (.inl a1)] h0 kc ks Q) (hO0 : OK h0) (a1 : Int32) (b1 : 0 ≤ a1.toInt ∧ a1.toInt ≤ 6) (e1 : 6 ≤ a1.toInt + (n : Int)) (hQ : ∀ r h', (r = none) → OK h' → un [] h0 h' → Q r h') : uCall Mt (d + 9) 101 [(.inr (.inr (some 5))), (.inl a1)] h0 kc ks Q := by
  have l_0 : ((0) : Int32).toInt = 0 := by decide
  have l_1 : ((1) : Int32).toInt = 1 := by decide
  have l_13 : ((13) : Int32).toInt = 13 := by decide
  have l_124 : ((124) : Int32).toInt = 124 := by decide
  refine uc_ink [some (.inr (.inr (some 5))), some (.inl a1), none] mt_101 (Nat.le_of_ble_eq_true rfl) rfl ?_
  refine ur_ldA rfl rfl ?_
  refine ur_ldI rfl rfl ?_
  obtain ⟨f2, f3, f4, f5, hc1, k6⟩ := ok_5 hO0
  refine ur_inl rfl (rcv_of hc1) (Nat.le_of_ble_eq_true rfl) (Nat.le_of_ble_eq_true rfl) (sf_X8_readBoth n rec hO0 _ (by show 0 ≤ a1.toInt ∧ a1.toInt ≤ 6; omega) (by show 6 ≤ a1.toInt + (n : Int); omega) (fun w7 h9 hr8 hO9 hv9 => ?_))
  have hu9 := hv9
  subst hr8
  show uRun _ (uCall Mt _) _ 5 (_, [], _, _, _)
  refine ur_push rfl ?_
  refine ur_svIk [some (.inr (.inr (some 5))), some (.inl a1), some (.inl 0)] rfl rfl ?_
  have L11 : ∀ (m12 : Nat) (x10 : Int32) (h14 : aH) , OK h14 → un [] h9 h14 → ((0 ≤ x10.toInt ∧ x10.toInt ≤ 2147483647)) → ((2147483648 - x10.toInt).toNat) < m12 → uRun oX8_readEither (uCall Mt (d + 8)) Q 7 ([some (.inr (.inr (some 5))), some (.inl a1), some (.inl x10)], [], h14, kc, ks) := by
    intro m12
    induction m12 with
    | zero => intro x10 h14 hO14 hu14 iv15 mm16; omega
    | succ m12 ih13 =>
      intro x10 h14 hO14 hu14 iv15 mm16
      refine ur_ldI rfl rfl ?_
      refine ur_ldA rfl rfl ?_
      obtain ⟨f18, f19, f20, f21, hc17, k22⟩ := ok_5 hO14
      refine ur_get rfl hc17 rfl ?_
      have z23 := any_r x10
      have z24 := any_r f18
      refine ur_if2 rfl (fun c25 => ?_) (fun c25 => ?_)
      · have t26 := le_to c25
        exact ur_ret0 rfl (hQ _ _ rfl hO14 (hu9.tr hu14))
      · have t27 := le_no c25
        refine ur_ldA rfl rfl ?_
        refine ur_push rfl ?_
        refine ur_inl rfl (rcv_of hc17) (Nat.le_of_ble_eq_true rfl) (Nat.le_of_ble_eq_true rfl) (sf_X8_isGoingOn hO14 _ (fun w28 h30 hr29 hO30 hv30 => ?_))
        have hu30 := hv30
        obtain ⟨b31, rfl⟩ := hr29
        show uRun _ (uCall Mt _) _ 21 (_, [(.inl (bi b31))], _, _, _)
        refine ur_eqB rfl (fun c32 => ?_) (fun c32 => ?_)
        · exact ur_ret0 rfl (hQ _ _ rfl hO30 (hu9.tr (hu14.tr hu30)))
        · refine ur_ldA rfl rfl ?_
          refine ur_ldI rfl rfl ?_
          obtain ⟨f34, f35, f36, f37, hc33, k38⟩ := ok_5 hO30
          refine ur_inl rfl (rcv_of hc33) (Nat.le_of_ble_eq_true rfl) (Nat.le_of_ble_eq_true rfl) (sf_X8_readBoth n rec hO30 _ (by show 0 ≤ a1.toInt ∧ a1.toInt ≤ 6; omega) (by show 6 ≤ a1.toInt + (n : Int); omega) (fun w39 h41 hr40 hO41 hv41 => ?_))
          have hu41 := hv41
          subst hr40
          show uRun _ (uCall Mt _) _ 29 (_, [], _, _, _)
          refine ur_ldA rfl rfl ?_
          refine ur_push rfl ?_
          refine ur_push rfl ?_
          obtain ⟨f43, f44, f45, f46, hc42, k47⟩ := ok_5 hO41
          refine ur_inl rfl (rcv_of hc42) (Nat.le_of_ble_eq_true rfl) (Nat.le_of_ble_eq_true rfl) (sf_X8_add hO41 _ _ (fun w48 h50 hr49 hO50 hv50 => ?_))
          have hu50 := hv50
          subst hr49
          show uRun _ (uCall Mt _) _ 36 (_, [], _, _, _)
          refine ur_incV (fun z => [some (.inr (.inr (some 5))), some (.inl a1), some (.inl z)]) rfl rfl (fun _ => rfl) (fun x51 e52 => ?_)
          have t53 := ti_add e52 (by omega) (by omega)
          refine ur_go rfl ?_
          have z54 := any_r x51
          exact ih13 x51 _ hO50 (hu14.tr (hu30.tr (hu41.tr hu50))) (by omega) (by omega)
  exact L11 _ 0 _ hO9 un.rf (by omega) (Nat.lt_succ_self _)

set_option maxRecDepth 20000 in
set_option maxHeartbeats 4000000 in
theorem sf_X8_op_s {d kc ks : Nat} {h0 : aH} {Q : Option aV → aH → Prop} (n : Nat) (rec : ∀ {kc ks : Nat} {h0 : aH} {Q : Option aV → aH → Prop}, OK h0 → ∀ (a1 : Int32), (0 ≤ a1.toInt ∧ a1.toInt ≤ 6) → (6 ≤ a1.toInt + (n : Int)) → (∀ r h', (r = none) → OK h' → un [] h0 h' → Q r h') → uCall Mt (d + 4) 106 [(.inr (.inr (some 5))), (.inl a1)] h0 kc ks Q) (rec9 : ∀ {kc ks : Nat} {h0 : aH} {Q : Option aV → aH → Prop}, OK h0 → ∀ (a1 : Int32), (0 ≤ a1.toInt ∧ a1.toInt ≤ 6) → (6 ≤ a1.toInt + (n : Int)) → (∀ r h', (r = none) → OK h' → un [] h0 h' → Q r h') → uCall Mt (d + 9) 106 [(.inr (.inr (some 5))), (.inl a1)] h0 kc ks Q) (hO0 : OK h0) (a1 : Int32) (b1 : 0 ≤ a1.toInt ∧ a1.toInt ≤ 6) (e1 : 6 ≤ a1.toInt + ((n + 1 : Nat) : Int)) (hQ : ∀ r h', (r = none) → OK h' → un [] h0 h' → Q r h') : uCall Mt (d + 10) 106 [(.inr (.inr (some 5))), (.inl a1)] h0 kc ks Q := by
  have l_0 : ((0) : Int32).toInt = 0 := by decide
  have l_1 : ((1) : Int32).toInt = 1 := by decide
  have l_2 : ((2) : Int32).toInt = 2 := by decide
  have l_3 : ((3) : Int32).toInt = 3 := by decide
  have l_6 : ((6) : Int32).toInt = 6 := by decide
  have l_33 : ((33) : Int32).toInt = 33 := by decide
  have l_40 : ((40) : Int32).toInt = 40 := by decide
  have l_41 : ((41) : Int32).toInt = 41 := by decide
  have l_45 : ((45) : Int32).toInt = 45 := by decide
  have l_48 : ((48) : Int32).toInt = 48 := by decide
  have l_57 : ((57) : Int32).toInt = 57 := by decide
  have l_97 : ((97) : Int32).toInt = 97 := by decide
  have l_122 : ((122) : Int32).toInt = 122 := by decide
  refine uc_ink [some (.inr (.inr (some 5))), some (.inl a1), none] mt_106 (Nat.le_of_ble_eq_true rfl) rfl ?_
  refine ur_ldA rfl rfl ?_
  obtain ⟨f2, f3, f4, f5, hc1, k6⟩ := ok_5 hO0
  refine ur_inl rfl (rcv_of hc1) (Nat.le_of_ble_eq_true rfl) (Nat.le_of_ble_eq_true rfl) (sf_X8_here hO0  (fun w7 hr8 => ?_))
  obtain ⟨x9, rfl⟩ := hr8
  show uRun _ (uCall Mt _) _ 4 (_, [(.inl x9)], _, _, _)
  refine ur_svIk [some (.inr (.inr (some 5))), some (.inl a1), some (.inl x9)] rfl rfl ?_
  refine ur_ldI rfl rfl ?_
  refine ur_push rfl ?_
  refine ur_push rfl ?_
  refine ur_callv rfl rfl (Nat.le_of_ble_eq_true rfl) (Nat.le_of_ble_eq_true rfl) rfl (sp_within _ _ _ _ _) ?_
  refine ur_eqB rfl (fun c12 => ?_) (fun c12 => ?_)
  · have t13 := wi_noL c12 l_48 l_57
    refine ur_ldI rfl rfl ?_
    refine ur_push rfl ?_
    refine ur_push rfl ?_
    refine ur_callv rfl rfl (Nat.le_of_ble_eq_true rfl) (Nat.le_of_ble_eq_true rfl) rfl (sp_within _ _ _ _ _) ?_
    refine ur_eqB rfl (fun c16 => ?_) (fun c16 => ?_)
    · have t17 := wi_noL c16 l_97 l_122
      refine ur_ldI rfl rfl ?_
      refine ur_push rfl ?_
      refine ur_if2 rfl (fun c18 => ?_) (fun c18 => ?_)
      · have t19 := lt_to c18
        refine ur_ldA rfl rfl ?_
        refine ur_push rfl ?_
        refine ur_inl rfl (rcv_of hc1) (Nat.le_of_ble_eq_true rfl) (Nat.le_of_ble_eq_true rfl) (sf_X8_take hO0 _ (fun w20 h22 hr21 hO22 hv22 => ?_))
        have hu22 := hv22
        obtain ⟨b23, rfl⟩ := hr21
        show uRun _ (uCall Mt _) _ 88 (_, [(.inl (bi b23))], _, _, _)
        refine ur_eqB rfl (fun c24 => ?_) (fun c24 => ?_)
        · refine ur_ldA rfl rfl ?_
          refine ur_push rfl ?_
          obtain ⟨f26, f27, f28, f29, hc25, k30⟩ := ok_5 hO22
          refine ur_inl rfl (rcv_of hc25) (Nat.le_of_ble_eq_true rfl) (Nat.le_of_ble_eq_true rfl) (sf_X8_take hO22 _ (fun w31 h33 hr32 hO33 hv33 => ?_))
          have hu33 := hv33
          obtain ⟨b34, rfl⟩ := hr32
          show uRun _ (uCall Mt _) _ 120 (_, [(.inl (bi b34))], _, _, _)
          refine ur_eqB rfl (fun c35 => ?_) (fun c35 => ?_)
          · refine ur_ldA rfl rfl ?_
            refine ur_push rfl ?_
            obtain ⟨f37, f38, f39, f40, hc36, k41⟩ := ok_5 hO33
            refine ur_inl rfl (rcv_of hc36) (Nat.le_of_ble_eq_true rfl) (Nat.le_of_ble_eq_true rfl) (sf_X8_take hO33 _ (fun w42 h44 hr43 hO44 hv44 => ?_))
            have hu44 := hv44
            obtain ⟨b45, rfl⟩ := hr43
            show uRun _ (uCall Mt _) _ 145 (_, [(.inl (bi b45))], _, _, _)
            refine ur_eqB rfl (fun c46 => ?_) (fun c46 => ?_)
            · refine ur_ldA rfl rfl ?_
              obtain ⟨f48, f49, f50, f51, hc47, k52⟩ := ok_5 hO44
              refine ur_inl rfl (rcv_of hc47) (Nat.le_of_ble_eq_true rfl) (Nat.le_of_ble_eq_true rfl) (sf_X8_failHere hO44  (fun w53 h55 hr54 hO55 hv55 => ?_))
              have hu55 := hv55
              subst hr54
              show uRun _ (uCall Mt _) _ 168 (_, [], _, _, _)
              exact ur_ret0 rfl (hQ _ _ rfl hO55 (hu22.tr (hu33.tr (hu44.tr hu55))))
            · refine ur_ldA rfl rfl ?_
              refine ur_ldI rfl rfl ?_
              refine ur_push rfl ?_
              refine ur_binV rfl (fun x56 e57 => ?_)
              have z58 := any_r a1
              have t59 := ti_add e57 (by omega) (by omega)
              obtain ⟨f61, f62, f63, f64, hc60, k65⟩ := ok_5 hO44
              refine ur_inl rfl (rcv_of hc60) (Nat.le_of_ble_eq_true rfl) (Nat.le_of_ble_eq_true rfl) (rec9 hO44 _ (by show 0 ≤ x56.toInt ∧ x56.toInt ≤ 6; omega) (by show 6 ≤ x56.toInt + (n : Int); omega) (fun w66 h68 hr67 hO68 hv68 => ?_))
              have hu68 := hv68
              subst hr67
              show uRun _ (uCall Mt _) _ 155 (_, [], _, _, _)
              refine ur_ldA rfl rfl ?_
              refine ur_push rfl ?_
              refine ur_push rfl ?_
              obtain ⟨f70, f71, f72, f73, hc69, k74⟩ := ok_5 hO68
              refine ur_inl rfl (rcv_of hc69) (Nat.le_of_ble_eq_true rfl) (Nat.le_of_ble_eq_true rfl) (sf_X8_add hO68 _ _ (fun w75 h77 hr76 hO77 hv77 => ?_))
              have hu77 := hv77
              subst hr76
              show uRun _ (uCall Mt _) _ 161 (_, [], _, _, _)
              refine ur_go rfl ?_
              exact ur_ret0 rfl (hQ _ _ rfl hO77 (hu22.tr (hu33.tr (hu44.tr (hu68.tr hu77)))))
          · refine ur_ldA rfl rfl ?_
            refine ur_ldI rfl rfl ?_
            refine ur_push rfl ?_
            refine ur_binV rfl (fun x78 e79 => ?_)
            have z80 := any_r a1
            have t81 := ti_add e79 (by omega) (by omega)
            obtain ⟨f83, f84, f85, f86, hc82, k87⟩ := ok_5 hO33
            refine ur_inl rfl (rcv_of hc82) (Nat.le_of_ble_eq_true rfl) (Nat.le_of_ble_eq_true rfl) (rec9 hO33 _ (by show 0 ≤ x78.toInt ∧ x78.toInt ≤ 6; omega) (by show 6 ≤ x78.toInt + (n : Int); omega) (fun w88 h90 hr89 hO90 hv90 => ?_))
            have hu90 := hv90
            subst hr89
            show uRun _ (uCall Mt _) _ 130 (_, [], _, _, _)
            refine ur_ldA rfl rfl ?_
            refine ur_push rfl ?_
            refine ur_push rfl ?_
            obtain ⟨f92, f93, f94, f95, hc91, k96⟩ := ok_5 hO90
            refine ur_inl rfl (rcv_of hc91) (Nat.le_of_ble_eq_true rfl) (Nat.le_of_ble_eq_true rfl) (sf_X8_add hO90 _ _ (fun w97 h99 hr98 hO99 hv99 => ?_))
            have hu99 := hv99
            subst hr98
            show uRun _ (uCall Mt _) _ 136 (_, [], _, _, _)
            refine ur_go rfl ?_
            exact ur_ret0 rfl (hQ _ _ rfl hO99 (hu22.tr (hu33.tr (hu90.tr hu99))))
        · refine ur_ldA rfl rfl ?_
          refine ur_ldI rfl rfl ?_
          refine ur_push rfl ?_
          refine ur_binV rfl (fun x100 e101 => ?_)
          have z102 := any_r a1
          have t103 := ti_add e101 (by omega) (by omega)
          obtain ⟨f105, f106, f107, f108, hc104, k109⟩ := ok_5 hO22
          refine ur_inl rfl (rcv_of hc104) (Nat.le_of_ble_eq_true rfl) (Nat.le_of_ble_eq_true rfl) (sf_X8_readEither n rec hO22 _ (by show 0 ≤ x100.toInt ∧ x100.toInt ≤ 6; omega) (by show 6 ≤ x100.toInt + (n : Int); omega) (fun w110 h112 hr111 hO112 hv112 => ?_))
          have hu112 := hv112
          subst hr111
          show uRun _ (uCall Mt _) _ 98 (_, [], _, _, _)
          refine ur_ldA rfl rfl ?_
          refine ur_push rfl ?_
          obtain ⟨f114, f115, f116, f117, hc113, k118⟩ := ok_5 hO112
          refine ur_inl rfl (rcv_of hc113) (Nat.le_of_ble_eq_true rfl) (Nat.le_of_ble_eq_true rfl) (sf_X8_isGoingOn hO112 _ (fun w119 h121 hr120 hO121 hv121 => ?_))
          have hu121 := hv121
          obtain ⟨b122, rfl⟩ := hr120
          show uRun _ (uCall Mt _) _ 104 (_, [(.inl (bi b122))], _, _, _)
          refine ur_neB rfl (fun c123 => ?_) (fun c123 => ?_)
          · exact ur_ret0 rfl (hQ _ _ rfl hO121 (hu22.tr (hu112.tr hu121)))
          · refine ur_ldA rfl rfl ?_
            obtain ⟨f125, f126, f127, f128, hc124, k129⟩ := ok_5 hO121
            refine ur_inl rfl (rcv_of hc124) (Nat.le_of_ble_eq_true rfl) (Nat.le_of_ble_eq_true rfl) (sf_X8_failHere hO121  (fun w130 h132 hr131 hO132 hv132 => ?_))
            have hu132 := hv132
            subst hr131
            show uRun _ (uCall Mt _) _ 111 (_, [], _, _, _)
            refine ur_go rfl ?_
            exact ur_ret0 rfl (hQ _ _ rfl hO132 (hu22.tr (hu112.tr (hu121.tr hu132))))
      · have t133 := lt_no c18
        refine ur_ldA rfl rfl ?_
        refine ur_inl rfl (rcv_of hc1) (Nat.le_of_ble_eq_true rfl) (Nat.le_of_ble_eq_true rfl) (sf_X8_failHere hO0  (fun w134 h136 hr135 hO136 hv136 => ?_))
        have hu136 := hv136
        subst hr135
        show uRun _ (uCall Mt _) _ 79 (_, [], _, _, _)
        refine ur_go rfl ?_
        exact ur_ret0 rfl (hQ _ _ rfl hO136 hu136)
    · have t137 := wi_toL c16 l_97 l_122
      refine ur_idxV rfl rfl (by omega) (Nat.le_of_ble_eq_true rfl) (fun x138 t139 e140 => ?_)
      refine ur_if1 rfl (fun c141 => ?_) (fun c141 => ?_)
      · have t142 := lt_to c141
        refine ur_ldI rfl rfl ?_
        refine ur_push rfl ?_
        refine ur_if2 rfl (fun c143 => ?_) (fun c143 => ?_)
        · have t144 := lt_to c143
          refine ur_ldA rfl rfl ?_
          refine ur_push rfl ?_
          refine ur_inl rfl (rcv_of hc1) (Nat.le_of_ble_eq_true rfl) (Nat.le_of_ble_eq_true rfl) (sf_X8_take hO0 _ (fun w145 h147 hr146 hO147 hv147 => ?_))
          have hu147 := hv147
          obtain ⟨b148, rfl⟩ := hr146
          show uRun _ (uCall Mt _) _ 88 (_, [(.inl (bi b148))], _, _, _)
          refine ur_eqB rfl (fun c149 => ?_) (fun c149 => ?_)
          · refine ur_ldA rfl rfl ?_
            refine ur_push rfl ?_
            obtain ⟨f151, f152, f153, f154, hc150, k155⟩ := ok_5 hO147
            refine ur_inl rfl (rcv_of hc150) (Nat.le_of_ble_eq_true rfl) (Nat.le_of_ble_eq_true rfl) (sf_X8_take hO147 _ (fun w156 h158 hr157 hO158 hv158 => ?_))
            have hu158 := hv158
            obtain ⟨b159, rfl⟩ := hr157
            show uRun _ (uCall Mt _) _ 120 (_, [(.inl (bi b159))], _, _, _)
            refine ur_eqB rfl (fun c160 => ?_) (fun c160 => ?_)
            · refine ur_ldA rfl rfl ?_
              refine ur_push rfl ?_
              obtain ⟨f162, f163, f164, f165, hc161, k166⟩ := ok_5 hO158
              refine ur_inl rfl (rcv_of hc161) (Nat.le_of_ble_eq_true rfl) (Nat.le_of_ble_eq_true rfl) (sf_X8_take hO158 _ (fun w167 h169 hr168 hO169 hv169 => ?_))
              have hu169 := hv169
              obtain ⟨b170, rfl⟩ := hr168
              show uRun _ (uCall Mt _) _ 145 (_, [(.inl (bi b170))], _, _, _)
              refine ur_eqB rfl (fun c171 => ?_) (fun c171 => ?_)
              · refine ur_ldA rfl rfl ?_
                obtain ⟨f173, f174, f175, f176, hc172, k177⟩ := ok_5 hO169
                refine ur_inl rfl (rcv_of hc172) (Nat.le_of_ble_eq_true rfl) (Nat.le_of_ble_eq_true rfl) (sf_X8_failHere hO169  (fun w178 h180 hr179 hO180 hv180 => ?_))
                have hu180 := hv180
                subst hr179
                show uRun _ (uCall Mt _) _ 168 (_, [], _, _, _)
                exact ur_ret0 rfl (hQ _ _ rfl hO180 (hu147.tr (hu158.tr (hu169.tr hu180))))
              · refine ur_ldA rfl rfl ?_
                refine ur_ldI rfl rfl ?_
                refine ur_push rfl ?_
                refine ur_binV rfl (fun x181 e182 => ?_)
                have z183 := any_r a1
                have t184 := ti_add e182 (by omega) (by omega)
                obtain ⟨f186, f187, f188, f189, hc185, k190⟩ := ok_5 hO169
                refine ur_inl rfl (rcv_of hc185) (Nat.le_of_ble_eq_true rfl) (Nat.le_of_ble_eq_true rfl) (rec9 hO169 _ (by show 0 ≤ x181.toInt ∧ x181.toInt ≤ 6; omega) (by show 6 ≤ x181.toInt + (n : Int); omega) (fun w191 h193 hr192 hO193 hv193 => ?_))
                have hu193 := hv193
                subst hr192
                show uRun _ (uCall Mt _) _ 155 (_, [], _, _, _)
                refine ur_ldA rfl rfl ?_
                refine ur_push rfl ?_
                refine ur_push rfl ?_
                obtain ⟨f195, f196, f197, f198, hc194, k199⟩ := ok_5 hO193
                refine ur_inl rfl (rcv_of hc194) (Nat.le_of_ble_eq_true rfl) (Nat.le_of_ble_eq_true rfl) (sf_X8_add hO193 _ _ (fun w200 h202 hr201 hO202 hv202 => ?_))
                have hu202 := hv202
                subst hr201
                show uRun _ (uCall Mt _) _ 161 (_, [], _, _, _)
                refine ur_go rfl ?_
                exact ur_ret0 rfl (hQ _ _ rfl hO202 (hu147.tr (hu158.tr (hu169.tr (hu193.tr hu202)))))
            · refine ur_ldA rfl rfl ?_
              refine ur_ldI rfl rfl ?_
              refine ur_push rfl ?_
              refine ur_binV rfl (fun x203 e204 => ?_)
              have z205 := any_r a1
              have t206 := ti_add e204 (by omega) (by omega)
              obtain ⟨f208, f209, f210, f211, hc207, k212⟩ := ok_5 hO158
              refine ur_inl rfl (rcv_of hc207) (Nat.le_of_ble_eq_true rfl) (Nat.le_of_ble_eq_true rfl) (rec9 hO158 _ (by show 0 ≤ x203.toInt ∧ x203.toInt ≤ 6; omega) (by show 6 ≤ x203.toInt + (n : Int); omega) (fun w213 h215 hr214 hO215 hv215 => ?_))
              have hu215 := hv215
              subst hr214
              show uRun _ (uCall Mt _) _ 130 (_, [], _, _, _)
              refine ur_ldA rfl rfl ?_
              refine ur_push rfl ?_
              refine ur_push rfl ?_
              obtain ⟨f217, f218, f219, f220, hc216, k221⟩ := ok_5 hO215
              refine ur_inl rfl (rcv_of hc216) (Nat.le_of_ble_eq_true rfl) (Nat.le_of_ble_eq_true rfl) (sf_X8_add hO215 _ _ (fun w222 h224 hr223 hO224 hv224 => ?_))
              have hu224 := hv224
              subst hr223
              show uRun _ (uCall Mt _) _ 136 (_, [], _, _, _)
              refine ur_go rfl ?_
              exact ur_ret0 rfl (hQ _ _ rfl hO224 (hu147.tr (hu158.tr (hu215.tr hu224))))
          · refine ur_ldA rfl rfl ?_
            refine ur_ldI rfl rfl ?_
            refine ur_push rfl ?_
            refine ur_binV rfl (fun x225 e226 => ?_)
            have z227 := any_r a1
            have t228 := ti_add e226 (by omega) (by omega)
            obtain ⟨f230, f231, f232, f233, hc229, k234⟩ := ok_5 hO147
            refine ur_inl rfl (rcv_of hc229) (Nat.le_of_ble_eq_true rfl) (Nat.le_of_ble_eq_true rfl) (sf_X8_readEither n rec hO147 _ (by show 0 ≤ x225.toInt ∧ x225.toInt ≤ 6; omega) (by show 6 ≤ x225.toInt + (n : Int); omega) (fun w235 h237 hr236 hO237 hv237 => ?_))
            have hu237 := hv237
            subst hr236
            show uRun _ (uCall Mt _) _ 98 (_, [], _, _, _)
            refine ur_ldA rfl rfl ?_
            refine ur_push rfl ?_
            obtain ⟨f239, f240, f241, f242, hc238, k243⟩ := ok_5 hO237
            refine ur_inl rfl (rcv_of hc238) (Nat.le_of_ble_eq_true rfl) (Nat.le_of_ble_eq_true rfl) (sf_X8_isGoingOn hO237 _ (fun w244 h246 hr245 hO246 hv246 => ?_))
            have hu246 := hv246
            obtain ⟨b247, rfl⟩ := hr245
            show uRun _ (uCall Mt _) _ 104 (_, [(.inl (bi b247))], _, _, _)
            refine ur_neB rfl (fun c248 => ?_) (fun c248 => ?_)
            · exact ur_ret0 rfl (hQ _ _ rfl hO246 (hu147.tr (hu237.tr hu246)))
            · refine ur_ldA rfl rfl ?_
              obtain ⟨f250, f251, f252, f253, hc249, k254⟩ := ok_5 hO246
              refine ur_inl rfl (rcv_of hc249) (Nat.le_of_ble_eq_true rfl) (Nat.le_of_ble_eq_true rfl) (sf_X8_failHere hO246  (fun w255 h257 hr256 hO257 hv257 => ?_))
              have hu257 := hv257
              subst hr256
              show uRun _ (uCall Mt _) _ 111 (_, [], _, _, _)
              refine ur_go rfl ?_
              exact ur_ret0 rfl (hQ _ _ rfl hO257 (hu147.tr (hu237.tr (hu246.tr hu257))))
        · have t258 := lt_no c143
          refine ur_ldA rfl rfl ?_
          refine ur_inl rfl (rcv_of hc1) (Nat.le_of_ble_eq_true rfl) (Nat.le_of_ble_eq_true rfl) (sf_X8_failHere hO0  (fun w259 h261 hr260 hO261 hv261 => ?_))
          have hu261 := hv261
          subst hr260
          show uRun _ (uCall Mt _) _ 79 (_, [], _, _, _)
          refine ur_go rfl ?_
          exact ur_ret0 rfl (hQ _ _ rfl hO261 hu261)
      · have t262 := lt_no c141
        refine ur_ldA rfl rfl ?_
        refine ur_push rfl ?_
        refine ur_idxV rfl rfl (by omega) (Nat.le_of_ble_eq_true rfl) (fun x263 t264 e265 => ?_)
        refine ur_inl rfl (rcv_of hc1) (Nat.le_of_ble_eq_true rfl) (Nat.le_of_ble_eq_true rfl) (sf_X8_add hO0 _ _ (fun w266 h268 hr267 hO268 hv268 => ?_))
        have hu268 := hv268
        subst hr267
        show uRun _ (uCall Mt _) _ 56 (_, [], _, _, _)
        refine ur_ldA rfl rfl ?_
        refine ur_dup rfl rfl ?_
        obtain ⟨f270, f271, f272, f273, hc269, k274⟩ := ok_5 hO268
        refine ur_get rfl hc269 rfl ?_
        refine ur_push rfl ?_
        refine ur_binV rfl (fun x275 e276 => ?_)
        have z277 := any_r f271
        refine ur_putV (W := []) (fs' := [(.inr (.inr (some 6))), (.inl f270), (.inl x275), (.inl f272), (.inr (.inr (some 7))), (.inl f273)]) rfl hO268 hc269 (Nat.le_of_ble_eq_true rfl) rfl rfl ⟨rfl, _, _, _, _, rfl, by omega⟩ rfl (Or.inl rfl) (fun h279 hO279 hu279 d278 hc280 => ?_)
        refine ur_go rfl ?_
        exact ur_ret0 rfl (hQ _ _ rfl hO279 (hu268.tr hu279))
  · have t281 := wi_toL c12 l_48 l_57
    refine ur_ldA rfl rfl ?_
    refine ur_inl rfl (rcv_of hc1) (Nat.le_of_ble_eq_true rfl) (Nat.le_of_ble_eq_true rfl) (sf_X8_readNumber hO0  (fun w282 h284 hr283 hO284 hv284 => ?_))
    have hu284 := hv284
    subst hr283
    show uRun _ (uCall Mt _) _ 20 (_, [], _, _, _)
    refine ur_go rfl ?_
    exact ur_ret0 rfl (hQ _ _ rfl hO284 hu284)

set_option maxRecDepth 20000 in
set_option maxHeartbeats 4000000 in
theorem sf_X8_op_0 {d kc ks : Nat} {h0 : aH} {Q : Option aV → aH → Prop} (hO0 : OK h0) (a1 : Int32) (b1 : 6 ≤ a1.toInt ∧ a1.toInt ≤ 6) (hQ : ∀ r h', (r = none) → OK h' → un [] h0 h' → Q r h') : uCall Mt (d + 4) 106 [(.inr (.inr (some 5))), (.inl a1)] h0 kc ks Q := by
  have l_0 : ((0) : Int32).toInt = 0 := by decide
  have l_1 : ((1) : Int32).toInt = 1 := by decide
  have l_6 : ((6) : Int32).toInt = 6 := by decide
  have l_48 : ((48) : Int32).toInt = 48 := by decide
  have l_57 : ((57) : Int32).toInt = 57 := by decide
  have l_97 : ((97) : Int32).toInt = 97 := by decide
  have l_122 : ((122) : Int32).toInt = 122 := by decide
  refine uc_ink [some (.inr (.inr (some 5))), some (.inl a1), none] mt_106 (Nat.le_of_ble_eq_true rfl) rfl ?_
  refine ur_ldA rfl rfl ?_
  obtain ⟨f2, f3, f4, f5, hc1, k6⟩ := ok_5 hO0
  refine ur_inl rfl (rcv_of hc1) (Nat.le_of_ble_eq_true rfl) (Nat.le_of_ble_eq_true rfl) (sf_X8_here hO0  (fun w7 hr8 => ?_))
  obtain ⟨x9, rfl⟩ := hr8
  show uRun _ (uCall Mt _) _ 4 (_, [(.inl x9)], _, _, _)
  refine ur_svIk [some (.inr (.inr (some 5))), some (.inl a1), some (.inl x9)] rfl rfl ?_
  refine ur_ldI rfl rfl ?_
  refine ur_push rfl ?_
  refine ur_push rfl ?_
  refine ur_callv rfl rfl (Nat.le_of_ble_eq_true rfl) (Nat.le_of_ble_eq_true rfl) rfl (sp_within _ _ _ _ _) ?_
  refine ur_eqB rfl (fun c12 => ?_) (fun c12 => ?_)
  · have t13 := wi_noL c12 l_48 l_57
    refine ur_ldI rfl rfl ?_
    refine ur_push rfl ?_
    refine ur_push rfl ?_
    refine ur_callv rfl rfl (Nat.le_of_ble_eq_true rfl) (Nat.le_of_ble_eq_true rfl) rfl (sp_within _ _ _ _ _) ?_
    refine ur_eqB rfl (fun c16 => ?_) (fun c16 => ?_)
    · have t17 := wi_noL c16 l_97 l_122
      refine ur_ldI rfl rfl ?_
      refine ur_push rfl ?_
      refine ur_if2 rfl (fun c18 => ?_) (fun c18 => ?_)
      · have t19 := lt_to c18
        exfalso
        omega
      · have t20 := lt_no c18
        refine ur_ldA rfl rfl ?_
        refine ur_inl rfl (rcv_of hc1) (Nat.le_of_ble_eq_true rfl) (Nat.le_of_ble_eq_true rfl) (sf_X8_failHere hO0  (fun w21 h23 hr22 hO23 hv23 => ?_))
        have hu23 := hv23
        subst hr22
        show uRun _ (uCall Mt _) _ 79 (_, [], _, _, _)
        refine ur_go rfl ?_
        exact ur_ret0 rfl (hQ _ _ rfl hO23 hu23)
    · have t24 := wi_toL c16 l_97 l_122
      refine ur_idxV rfl rfl (by omega) (Nat.le_of_ble_eq_true rfl) (fun x25 t26 e27 => ?_)
      refine ur_if1 rfl (fun c28 => ?_) (fun c28 => ?_)
      · have t29 := lt_to c28
        refine ur_ldI rfl rfl ?_
        refine ur_push rfl ?_
        refine ur_if2 rfl (fun c30 => ?_) (fun c30 => ?_)
        · have t31 := lt_to c30
          exfalso
          omega
        · have t32 := lt_no c30
          refine ur_ldA rfl rfl ?_
          refine ur_inl rfl (rcv_of hc1) (Nat.le_of_ble_eq_true rfl) (Nat.le_of_ble_eq_true rfl) (sf_X8_failHere hO0  (fun w33 h35 hr34 hO35 hv35 => ?_))
          have hu35 := hv35
          subst hr34
          show uRun _ (uCall Mt _) _ 79 (_, [], _, _, _)
          refine ur_go rfl ?_
          exact ur_ret0 rfl (hQ _ _ rfl hO35 hu35)
      · have t36 := lt_no c28
        refine ur_ldA rfl rfl ?_
        refine ur_push rfl ?_
        refine ur_idxV rfl rfl (by omega) (Nat.le_of_ble_eq_true rfl) (fun x37 t38 e39 => ?_)
        refine ur_inl rfl (rcv_of hc1) (Nat.le_of_ble_eq_true rfl) (Nat.le_of_ble_eq_true rfl) (sf_X8_add hO0 _ _ (fun w40 h42 hr41 hO42 hv42 => ?_))
        have hu42 := hv42
        subst hr41
        show uRun _ (uCall Mt _) _ 56 (_, [], _, _, _)
        refine ur_ldA rfl rfl ?_
        refine ur_dup rfl rfl ?_
        obtain ⟨f44, f45, f46, f47, hc43, k48⟩ := ok_5 hO42
        refine ur_get rfl hc43 rfl ?_
        refine ur_push rfl ?_
        refine ur_binV rfl (fun x49 e50 => ?_)
        have z51 := any_r f45
        refine ur_putV (W := []) (fs' := [(.inr (.inr (some 6))), (.inl f44), (.inl x49), (.inl f46), (.inr (.inr (some 7))), (.inl f47)]) rfl hO42 hc43 (Nat.le_of_ble_eq_true rfl) rfl rfl ⟨rfl, _, _, _, _, rfl, by omega⟩ rfl (Or.inl rfl) (fun h53 hO53 hu53 d52 hc54 => ?_)
        refine ur_go rfl ?_
        exact ur_ret0 rfl (hQ _ _ rfl hO53 (hu42.tr hu53))
  · have t55 := wi_toL c12 l_48 l_57
    refine ur_ldA rfl rfl ?_
    refine ur_inl rfl (rcv_of hc1) (Nat.le_of_ble_eq_true rfl) (Nat.le_of_ble_eq_true rfl) (sf_X8_readNumber hO0  (fun w56 h58 hr57 hO58 hv58 => ?_))
    have hu58 := hv58
    subst hr57
    show uRun _ (uCall Mt _) _ 20 (_, [], _, _, _)
    refine ur_go rfl ?_
    exact ur_ret0 rfl (hQ _ _ rfl hO58 hu58)

theorem sf_X8_op (n : Nat) : ∀ {d kc ks : Nat} {h0 : aH} {Q : Option aV → aH → Prop}, OK h0 → ∀ (a1 : Int32), (0 ≤ a1.toInt ∧ a1.toInt ≤ 6) → (6 ≤ a1.toInt + (n : Int)) → (∀ r h', (r = none) → OK h' → un [] h0 h' → Q r h') → uCall Mt (d + 6 * n + 4) 106 [(.inr (.inr (some 5))), (.inl a1)] h0 kc ks Q := by
  induction n with
  | zero => exact fun hO a b e k => sf_X8_op_0 hO a (by omega) k
  | succ n ih => exact fun {d kc ks h0 Q} hO a b e k => uCall_le (show d + 6 * n + 10 ≤ d + 6 * (n + 1) + 4 by omega) (sf_X8_op_s (d := d + 6 * n) n (fun {kc ks h0 Q} hO a b e k => ih hO a b e k) (fun {kc ks h0 Q} hO a b e k => uCall_le (show d + 6 * n + 4 ≤ d + 6 * n + 9 by omega) (ih hO a b e k)) hO a b e k)
theorem sf_X8_rE {d kc ks : Nat} {h0 : aH} {Q : Option aV → aH → Prop} (hO : OK h0) (a1 : Int32) (b1 : 0 ≤ a1.toInt ∧ a1.toInt ≤ 6) (hQ : ∀ r h', (r = none) → OK h' → un [] h0 h' → Q r h') : uCall Mt (d + 45) 101 [(.inr (.inr (some 5))), (.inl a1)] h0 kc ks Q := uCall_le (show d + 6 * 6 + 9 ≤ d + 45 by omega) (sf_X8_readEither (d := d + 6 * 6) 6 (fun {kc ks h0 Q} hO a b e k => sf_X8_op 6 hO a b e k) hO a1 b1 (by omega) hQ)

set_option maxRecDepth 20000 in
set_option maxHeartbeats 4000000 in
theorem sf_X8_readLine {d kc ks : Nat} {h0 : aH} {Q : Option aV → aH → Prop} (hO0 : OK h0)  (hQ : ∀ r h', (r = none) → OK h' → un [] h0 h' → Q r h') : uCall Mt (d + 46) 100 [(.inr (.inr (some 5)))] h0 kc ks Q := by
  have l_0 : ((0) : Int32).toInt = 0 := by decide
  have l_14 : ((14) : Int32).toInt = 14 := by decide
  have l_15 : ((15) : Int32).toInt = 15 := by decide
  have l_63 : ((63) : Int32).toInt = 63 := by decide
  refine uc_ink [some (.inr (.inr (some 5))), none] mt_100 (Nat.le_of_ble_eq_true rfl) rfl ?_
  refine ur_ldA rfl rfl ?_
  refine ur_push rfl ?_
  obtain ⟨f2, f3, f4, f5, hc1, k6⟩ := ok_5 hO0
  refine ur_inl rfl (rcv_of hc1) (Nat.le_of_ble_eq_true rfl) (Nat.le_of_ble_eq_true rfl) (sf_X8_rE hO0 _ (by show 0 ≤ (0 : Int32).toInt ∧ (0 : Int32).toInt ≤ 6; omega) (fun w7 h9 hr8 hO9 hv9 => ?_))
  have hu9 := hv9
  subst hr8
  show uRun _ (uCall Mt _) _ 5 (_, [], _, _, _)
  refine ur_ldA rfl rfl ?_
  refine ur_push rfl ?_
  obtain ⟨f11, f12, f13, f14, hc10, k15⟩ := ok_5 hO9
  refine ur_inl rfl (rcv_of hc10) (Nat.le_of_ble_eq_true rfl) (Nat.le_of_ble_eq_true rfl) (sf_X8_isGoingOn hO9 _ (fun w16 h18 hr17 hO18 hv18 => ?_))
  have hu18 := hv18
  obtain ⟨b19, rfl⟩ := hr17
  show uRun _ (uCall Mt _) _ 11 (_, [(.inl (bi b19))], _, _, _)
  refine ur_neB rfl (fun c20 => ?_) (fun c20 => ?_)
  · refine ur_ldA rfl rfl ?_
    obtain ⟨f22, f23, f24, f25, hc21, k26⟩ := ok_5 hO18
    refine ur_get rfl hc21 rfl ?_
    refine ur_svIk [some (.inr (.inr (some 5))), some (.inl f25)] rfl rfl ?_
    refine ur_ldA rfl rfl ?_
    refine ur_push rfl ?_
    refine ur_push rfl ?_
    refine ur_inl rfl (rcv_of hc21) (Nat.le_of_ble_eq_true rfl) (Nat.le_of_ble_eq_true rfl) (sf_X8_add hO18 _ _ (fun w27 h29 hr28 hO29 hv29 => ?_))
    have hu29 := hv29
    subst hr28
    show uRun _ (uCall Mt _) _ 34 (_, [], _, _, _)
    refine ur_ldA rfl rfl ?_
    refine ur_push rfl ?_
    obtain ⟨f31, f32, f33, f34, hc30, k35⟩ := ok_5 hO29
    refine ur_inl rfl (rcv_of hc30) (Nat.le_of_ble_eq_true rfl) (Nat.le_of_ble_eq_true rfl) (sf_X8_rE hO29 _ (by show 0 ≤ (0 : Int32).toInt ∧ (0 : Int32).toInt ≤ 6; omega) (fun w36 h38 hr37 hO38 hv38 => ?_))
    have hu38 := hv38
    subst hr37
    show uRun _ (uCall Mt _) _ 39 (_, [], _, _, _)
    refine ur_ldA rfl rfl ?_
    refine ur_push rfl ?_
    refine ur_push rfl ?_
    obtain ⟨f40, f41, f42, f43, hc39, k44⟩ := ok_5 hO38
    refine ur_inl rfl (rcv_of hc39) (Nat.le_of_ble_eq_true rfl) (Nat.le_of_ble_eq_true rfl) (sf_X8_add hO38 _ _ (fun w45 h47 hr46 hO47 hv47 => ?_))
    have hu47 := hv47
    subst hr46
    show uRun _ (uCall Mt _) _ 46 (_, [], _, _, _)
    refine ur_ldI rfl rfl ?_
    refine ur_ldA rfl rfl ?_
    obtain ⟨f49, f50, f51, f52, hc48, k53⟩ := ok_5 hO47
    refine ur_get rfl hc48 rfl ?_
    obtain ⟨xs55, hc54, hn56, he57⟩ := hO47.int (hO47.fix 7 (by decide) rfl)
    refine ur_lenV (m := 128) rfl hc54 hn56 (by decide) (fun x58 t59 => ?_)
    have z60 := any_r f25
    have z61 := any_r x58
    refine ur_if2 rfl (fun c62 => ?_) (fun c62 => ?_)
    · have t63 := le_to c62
      exact ur_ret0 rfl (hQ _ _ rfl hO47 (hu9.tr (hu18.tr (hu29.tr (hu38.tr hu47)))))
    · have t64 := le_no c62
      refine ur_ldA rfl rfl ?_
      refine ur_get rfl hc48 rfl ?_
      refine ur_ldI rfl rfl ?_
      refine ur_push rfl ?_
      refine ur_ldA rfl rfl ?_
      refine ur_get rfl hc48 rfl ?_
      refine ur_inl rfl rfl (Nat.le_of_ble_eq_true rfl) (Nat.le_of_ble_eq_true rfl) (sf_X9_step _ _ (fun w65 hr66 => ?_))
      obtain ⟨x67, rfl⟩ := hr66
      show uRun _ (uCall Mt _) _ 69 (_, [(.inl x67), (.inl f25), (.inr (.inr (some 7)))], _, _, _)
      refine ur_astV (W := []) (m := 128) rfl hO47 hc54 (by decide) hn56 (by omega) (any_r _) (Or.inl rfl) (fun h70 hO70 hu70 d68 hc69 => ?_)
      exact ur_ret0 rfl (hQ _ _ rfl hO70 (hu9.tr (hu18.tr (hu29.tr (hu38.tr (hu47.tr hu70))))))
  · refine ur_ldA rfl rfl ?_
    refine ur_push rfl ?_
    refine ur_push rfl ?_
    obtain ⟨f72, f73, f74, f75, hc71, k76⟩ := ok_5 hO18
    refine ur_inl rfl (rcv_of hc71) (Nat.le_of_ble_eq_true rfl) (Nat.le_of_ble_eq_true rfl) (sf_X8_add hO18 _ _ (fun w77 h79 hr78 hO79 hv79 => ?_))
    have hu79 := hv79
    subst hr78
    show uRun _ (uCall Mt _) _ 21 (_, [], _, _, _)
    exact ur_ret0 rfl (hQ _ _ rfl hO79 (hu9.tr (hu18.tr hu79)))

set_option maxRecDepth 20000 in
set_option maxHeartbeats 4000000 in
theorem sf_X0_runBody {d kc ks : Nat} {h0 : aH} {Q : Option aV → aH → Prop} (n : Nat) (rec : ∀ {kc ks : Nat} {h0 : aH} {Q : Option aV → aH → Prop}, OK h0 → ∀ {a1 : Nat}, 114 ≤ a1 → tg h0 a1 = (110, 13) → ∀ (a2 a3 : Int32), (0 ≤ a3.toInt ∧ a3.toInt ≤ 3) → ∀ (a4 a5 : Int32), (0 ≤ a5.toInt ∧ a5.toInt ≤ 25) → (25 ≤ a5.toInt + (n : Int)) → (fO h0 55 1 + bq n ≤ 90000000) → (∀ r h', (∃ x, r = some (.inl x)) → OK h' → un [56, 6501] h0 h' → (fO h' 55 1 ≤ fO h0 55 1 + bq n) → Q r h') → uCall Mt (d + 2) 4 [(.inr (.inr (some 55))), (.inr (.inr (some a1))), (.inl a2), (.inl a3), (.inl a4), (.inl a5)] h0 kc ks Q) (hb0 : 0 ≤ bq n) (hO0 : OK h0) {a1 : Nat} (g1 : 114 ≤ a1) (t1 : tg h0 a1 = (110, 13)) (a2 : Int32) (a3 : Int32) (a4 : Int32) (b4 : 0 ≤ a4.toInt ∧ a4.toInt ≤ 25) (e4 : 25 ≤ a4.toInt + (n : Int)) (pre0 : fO h0 55 1 + (1 + 2 * bq n) ≤ 90000000) (hQ : ∀ r h', (∃ x, r = some (.inl x)) → OK h' → un [56, 6501] h0 h' → (fO h' 55 1 ≤ fO h0 55 1 + (1 + 2 * bq n)) → Q r h') : uCall Mt (d + 3) 5 [(.inr (.inr (some 55))), (.inr (.inr (some a1))), (.inl a2), (.inl a3), (.inl a4)] h0 kc ks Q := by
  have l_0 : ((0) : Int32).toInt = 0 := by decide
  have l_1 : ((1) : Int32).toInt = 1 := by decide
  have l_2 : ((2) : Int32).toInt = 2 := by decide
  have l_3 : ((3) : Int32).toInt = 3 := by decide
  have l_4 : ((4) : Int32).toInt = 4 := by decide
  have l_5 : ((5) : Int32).toInt = 5 := by decide
  have l_6 : ((6) : Int32).toInt = 6 := by decide
  have l_7 : ((7) : Int32).toInt = 7 := by decide
  have l_24 : ((24) : Int32).toInt = 24 := by decide
  refine uc_ink [some (.inr (.inr (some 55))), some (.inr (.inr (some a1))), some (.inl a2), some (.inl a3), some (.inl a4), none] mt_5 (Nat.le_of_ble_eq_true rfl) rfl ?_
  obtain ⟨f2, hc1, k3⟩ := ok_55 hO0
  have t4 := fO_of (k := 1) hc1 rfl
  refine ur_ldA rfl rfl ?_
  refine ur_get rfl hc1 rfl ?_
  refine ur_push rfl ?_
  refine ur_if2 rfl (fun c5 => ?_) (fun c5 => ?_)
  · have t6 := le_to c5
    refine ur_ldA rfl rfl ?_
    refine ur_dup rfl rfl ?_
    refine ur_get rfl hc1 rfl ?_
    refine ur_push rfl ?_
    refine ur_binV rfl (fun x7 e8 => ?_)
    have z9 := any_r f2
    have t10 := ti_add e8 (by omega) (by omega)
    refine ur_putV (W := [56, 6501]) (fs' := [(.inr (.inr (some 56))), (.inl x7)]) rfl hO0 hc1 (Nat.le_of_ble_eq_true rfl) rfl rfl ⟨rfl, _, rfl, by omega⟩ rfl (Or.inr (by show 1000 + 100 * wid 55 (100, 2) + 1 ∈ _; rw [(wid_f (by decide))]; decide)) (fun h12 hO12 hu12 d11 hc13 => ?_)
    refine ur_ldA rfl rfl ?_
    obtain ⟨g30, f15, f16, f17, f18, f19, f20, f21, f22, f23, o27, f24, f25, f26, hc14, k28, k29⟩ := hO12.word (hu12.tm t1 (by decide))
    refine ur_get rfl hc14 rfl ?_
    refine ur_svIk [some (.inr (.inr (some 55))), some (.inr (.inr (some a1))), some (.inl a2), some (.inl a3), some (.inl a4), some (.inl f16)] rfl rfl ?_
    refine ur_ldI rfl rfl ?_
    rcases (show a2.toInt = 1 ∨ a2.toInt = 2 ∨ a2.toInt = 10 ∨ a2.toInt = 11 ∨ a2.toInt = 20 ∨ a2.toInt = 30 ∨ a2.toInt = 40 ∨ a2.toInt = 50 ∨ a2.toInt = 60 ∨ a2.toInt = 70 ∨ a2.toInt = 80 ∨ a2.toInt = 81 ∨ (a2.toInt ≠ 1 ∧ a2.toInt ≠ 2 ∧ a2.toInt ≠ 10 ∧ a2.toInt ≠ 11 ∧ a2.toInt ≠ 20 ∧ a2.toInt ≠ 30 ∧ a2.toInt ≠ 40 ∧ a2.toInt ≠ 50 ∧ a2.toInt ≠ 60 ∧ a2.toInt ≠ 70 ∧ a2.toInt ≠ 80 ∧ a2.toInt ≠ 81) by omega) with t31 | t31 | t31 | t31 | t31 | t31 | t31 | t31 | t31 | t31 | t31 | t31 | t31
    · refine ur_swi (t := 144) rfl (by rw [t31]; rfl) ?_
      refine ur_ldI rfl rfl ?_
      refine ur_ldA rfl rfl ?_
      refine ur_get rfl hc14 rfl ?_
      refine ur_binV rfl (fun x32 e33 => ?_)
      have z34 := any_r a3
      have z35 := any_r f15
      have t36 := fO_of (k := 1) hc13 rfl
      exact ur_ret rfl rfl (hQ _ _ ⟨_, rfl⟩ hO12 hu12 (by omega))
    · refine ur_swi (t := 151) rfl (by rw [t31]; rfl) ?_
      refine ur_ldA rfl rfl ?_
      refine ur_ldA rfl rfl ?_
      refine ur_ldI rfl rfl ?_
      refine ur_push rfl ?_
      refine ur_ldI rfl rfl ?_
      refine ur_ldI rfl rfl ?_
      have t37 := fO_of (k := 1) hc13 rfl
      refine ur_inl rfl (rcv_of hc13) (Nat.le_of_ble_eq_true rfl) (Nat.le_of_ble_eq_true rfl) (rec hO12 g30 (hu12.tm t1 (by decide)) _ _ (by show 0 ≤ (1 : Int32).toInt ∧ (1 : Int32).toInt ≤ 3; omega) _ _ (by show 0 ≤ a4.toInt ∧ a4.toInt ≤ 25; omega) (by show 25 ≤ a4.toInt + (n : Int); omega) (by omega) (fun w38 h41 hr39 hO41 hv41 hp40 => ?_))
      have hu41 := hv41
      obtain ⟨x42, rfl⟩ := hr39
      show uRun _ (uCall Mt _) _ 162 (_, [(.inl x42)], _, _, _)
      refine ur_ldA rfl rfl ?_
      refine ur_ldA rfl rfl ?_
      refine ur_ldI rfl rfl ?_
      refine ur_push rfl ?_
      refine ur_push rfl ?_
      refine ur_ldI rfl rfl ?_
      obtain ⟨f44, hc43, k45⟩ := ok_55 hO41
      have t46 := fO_of (k := 1) hc43 rfl
      refine ur_inl rfl (rcv_of hc43) (Nat.le_of_ble_eq_true rfl) (Nat.le_of_ble_eq_true rfl) (rec hO41 g30 (hu41.tm (hu12.tm t1 (by decide)) (by decide)) _ _ (by show 0 ≤ (2 : Int32).toInt ∧ (2 : Int32).toInt ≤ 3; omega) _ _ (by show 0 ≤ a4.toInt ∧ a4.toInt ≤ 25; omega) (by show 25 ≤ a4.toInt + (n : Int); omega) (by omega) (fun w47 h50 hr48 hO50 hv50 hp49 => ?_))
      have hu50 := hv50
      obtain ⟨x51, rfl⟩ := hr48
      show uRun _ (uCall Mt _) _ 173 (_, [(.inl x51), (.inl x42)], _, _, _)
      refine ur_binV rfl (fun x52 e53 => ?_)
      have z54 := any_r x42
      have z55 := any_r x51
      obtain ⟨f57, hc56, k58⟩ := ok_55 hO50
      have t59 := fO_of (k := 1) hc56 rfl
      exact ur_ret rfl rfl (hQ _ _ ⟨_, rfl⟩ hO50 (hu12.tr (hu41.tr hu50)) (by omega))
    · refine ur_swi (t := 175) rfl (by rw [t31]; rfl) ?_
      refine ur_ldA rfl rfl ?_
      refine ur_ldA rfl rfl ?_
      refine ur_ldI rfl rfl ?_
      refine ur_push rfl ?_
      refine ur_ldI rfl rfl ?_
      refine ur_ldI rfl rfl ?_
      have t60 := fO_of (k := 1) hc13 rfl
      refine ur_inl rfl (rcv_of hc13) (Nat.le_of_ble_eq_true rfl) (Nat.le_of_ble_eq_true rfl) (rec hO12 g30 (hu12.tm t1 (by decide)) _ _ (by show 0 ≤ (0 : Int32).toInt ∧ (0 : Int32).toInt ≤ 3; omega) _ _ (by show 0 ≤ a4.toInt ∧ a4.toInt ≤ 25; omega) (by show 25 ≤ a4.toInt + (n : Int); omega) (by omega) (fun w61 h64 hr62 hO64 hv64 hp63 => ?_))
      have hu64 := hv64
      obtain ⟨x65, rfl⟩ := hr62
      show uRun _ (uCall Mt _) _ 186 (_, [(.inl x65)], _, _, _)
      refine ur_push rfl ?_
      refine ur_binV rfl (fun x66 e67 => ?_)
      have z68 := any_r x65
      obtain ⟨f70, hc69, k71⟩ := ok_55 hO64
      have t72 := fO_of (k := 1) hc69 rfl
      exact ur_ret rfl rfl (hQ _ _ ⟨_, rfl⟩ hO64 (hu12.tr hu64) (by omega))
    · refine ur_swi (t := 189) rfl (by rw [t31]; rfl) ?_
      refine ur_ldI rfl rfl ?_
      refine ur_ldA rfl rfl ?_
      refine ur_get rfl hc14 rfl ?_
      refine ur_binV rfl (fun x73 e74 => ?_)
      have t75 := fO_of (k := 1) hc13 rfl
      exact ur_ret rfl rfl (hQ _ _ ⟨_, rfl⟩ hO12 hu12 (by omega))
    · refine ur_swi (t := 196) rfl (by rw [t31]; rfl) ?_
      refine ur_ldA rfl rfl ?_
      refine ur_ldA rfl rfl ?_
      refine ur_push rfl ?_
      refine ur_inl rfl rfl (Nat.le_of_ble_eq_true rfl) (Nat.le_of_ble_eq_true rfl) (sf_X11_kindAbove _ (fun w76 hr77 => ?_))
      obtain ⟨x78, rfl, t79⟩ := hr77
      show uRun _ (uCall Mt _) _ 202 (_, [(.inl x78), (.inr (.inr (some a1))), (.inr (.inr (some 55)))], _, _, _)
      refine ur_push rfl ?_
      refine ur_ldI rfl rfl ?_
      refine ur_ldI rfl rfl ?_
      have t80 := fO_of (k := 1) hc13 rfl
      refine ur_inl rfl (rcv_of hc13) (Nat.le_of_ble_eq_true rfl) (Nat.le_of_ble_eq_true rfl) (rec hO12 g30 (hu12.tm t1 (by decide)) _ _ (by show 0 ≤ (1 : Int32).toInt ∧ (1 : Int32).toInt ≤ 3; omega) _ _ (by show 0 ≤ a4.toInt ∧ a4.toInt ≤ 25; omega) (by show 25 ≤ a4.toInt + (n : Int); omega) (by omega) (fun w81 h84 hr82 hO84 hv84 hp83 => ?_))
      have hu84 := hv84
      obtain ⟨x85, rfl⟩ := hr82
      show uRun _ (uCall Mt _) _ 209 (_, [(.inl x85)], _, _, _)
      refine ur_ldA rfl rfl ?_
      refine ur_get rfl (hv84.ko (n := 13) hc14 rfl (wid_w g30) (by decide)) rfl ?_
      refine ur_binV rfl (fun x86 e87 => ?_)
      have z88 := any_r x85
      have z89 := any_r f23
      obtain ⟨f91, hc90, k92⟩ := ok_55 hO84
      have t93 := fO_of (k := 1) hc90 rfl
      exact ur_ret rfl rfl (hQ _ _ ⟨_, rfl⟩ hO84 (hu12.tr hu84) (by omega))
    · refine ur_swi (t := 215) rfl (by rw [t31]; rfl) ?_
      refine ur_ldA rfl rfl ?_
      refine ur_ldA rfl rfl ?_
      refine ur_push rfl ?_
      refine ur_inl rfl rfl (Nat.le_of_ble_eq_true rfl) (Nat.le_of_ble_eq_true rfl) (sf_X11_kindAbove _ (fun w94 hr95 => ?_))
      obtain ⟨x96, rfl, t97⟩ := hr95
      show uRun _ (uCall Mt _) _ 221 (_, [(.inl x96), (.inr (.inr (some a1))), (.inr (.inr (some 55)))], _, _, _)
      refine ur_push rfl ?_
      refine ur_ldI rfl rfl ?_
      refine ur_ldI rfl rfl ?_
      have t98 := fO_of (k := 1) hc13 rfl
      refine ur_inl rfl (rcv_of hc13) (Nat.le_of_ble_eq_true rfl) (Nat.le_of_ble_eq_true rfl) (rec hO12 g30 (hu12.tm t1 (by decide)) _ _ (by show 0 ≤ (2 : Int32).toInt ∧ (2 : Int32).toInt ≤ 3; omega) _ _ (by show 0 ≤ a4.toInt ∧ a4.toInt ≤ 25; omega) (by show 25 ≤ a4.toInt + (n : Int); omega) (by omega) (fun w99 h102 hr100 hO102 hv102 hp101 => ?_))
      have hu102 := hv102
      obtain ⟨x103, rfl⟩ := hr100
      show uRun _ (uCall Mt _) _ 228 (_, [(.inl x103)], _, _, _)
      refine ur_push rfl ?_
      refine ur_binV rfl (fun x104 e105 => ?_)
      have z106 := any_r x103
      obtain ⟨f108, hc107, k109⟩ := ok_55 hO102
      have t110 := fO_of (k := 1) hc107 rfl
      exact ur_ret rfl rfl (hQ _ _ ⟨_, rfl⟩ hO102 (hu12.tr hu102) (by omega))
    · refine ur_swi (t := 231) rfl (by rw [t31]; rfl) ?_
      refine ur_ldA rfl rfl ?_
      refine ur_ldA rfl rfl ?_
      refine ur_push rfl ?_
      refine ur_inl rfl rfl (Nat.le_of_ble_eq_true rfl) (Nat.le_of_ble_eq_true rfl) (sf_X11_kindAbove _ (fun w111 hr112 => ?_))
      obtain ⟨x113, rfl, t114⟩ := hr112
      show uRun _ (uCall Mt _) _ 237 (_, [(.inl x113), (.inr (.inr (some a1))), (.inr (.inr (some 55)))], _, _, _)
      refine ur_push rfl ?_
      refine ur_ldI rfl rfl ?_
      refine ur_ldI rfl rfl ?_
      have t115 := fO_of (k := 1) hc13 rfl
      refine ur_inl rfl (rcv_of hc13) (Nat.le_of_ble_eq_true rfl) (Nat.le_of_ble_eq_true rfl) (rec hO12 g30 (hu12.tm t1 (by decide)) _ _ (by show 0 ≤ (0 : Int32).toInt ∧ (0 : Int32).toInt ≤ 3; omega) _ _ (by show 0 ≤ a4.toInt ∧ a4.toInt ≤ 25; omega) (by show 25 ≤ a4.toInt + (n : Int); omega) (by omega) (fun w116 h119 hr117 hO119 hv119 hp118 => ?_))
      have hu119 := hv119
      obtain ⟨x120, rfl⟩ := hr117
      show uRun _ (uCall Mt _) _ 244 (_, [(.inl x120)], _, _, _)
      refine ur_push rfl ?_
      refine ur_binV rfl (fun x121 e122 => ?_)
      have z123 := any_r x120
      obtain ⟨f125, hc124, k126⟩ := ok_55 hO119
      have t127 := fO_of (k := 1) hc124 rfl
      exact ur_ret rfl rfl (hQ _ _ ⟨_, rfl⟩ hO119 (hu12.tr hu119) (by omega))
    · refine ur_swi (t := 247) rfl (by rw [t31]; rfl) ?_
      refine ur_ldA rfl rfl ?_
      refine ur_ldA rfl rfl ?_
      refine ur_push rfl ?_
      refine ur_inl rfl rfl (Nat.le_of_ble_eq_true rfl) (Nat.le_of_ble_eq_true rfl) (sf_X11_kindAbove _ (fun w128 hr129 => ?_))
      obtain ⟨x130, rfl, t131⟩ := hr129
      show uRun _ (uCall Mt _) _ 253 (_, [(.inl x130), (.inr (.inr (some a1))), (.inr (.inr (some 55)))], _, _, _)
      refine ur_push rfl ?_
      refine ur_ldI rfl rfl ?_
      refine ur_ldI rfl rfl ?_
      have t132 := fO_of (k := 1) hc13 rfl
      refine ur_inl rfl (rcv_of hc13) (Nat.le_of_ble_eq_true rfl) (Nat.le_of_ble_eq_true rfl) (rec hO12 g30 (hu12.tm t1 (by decide)) _ _ (by show 0 ≤ (2 : Int32).toInt ∧ (2 : Int32).toInt ≤ 3; omega) _ _ (by show 0 ≤ a4.toInt ∧ a4.toInt ≤ 25; omega) (by show 25 ≤ a4.toInt + (n : Int); omega) (by omega) (fun w133 h136 hr134 hO136 hv136 hp135 => ?_))
      have hu136 := hv136
      obtain ⟨x137, rfl⟩ := hr134
      show uRun _ (uCall Mt _) _ 260 (_, [(.inl x137)], _, _, _)
      refine ur_unV rfl (fun x138 e139 => ?_)
      have z140 := any_r x137
      obtain ⟨f142, hc141, k143⟩ := ok_55 hO136
      have t144 := fO_of (k := 1) hc141 rfl
      exact ur_ret rfl rfl (hQ _ _ ⟨_, rfl⟩ hO136 (hu12.tr hu136) (by omega))
    · refine ur_swi (t := 262) rfl (by rw [t31]; rfl) ?_
      refine ur_ldA rfl rfl ?_
      refine ur_ldA rfl rfl ?_
      refine ur_push rfl ?_
      refine ur_inl rfl rfl (Nat.le_of_ble_eq_true rfl) (Nat.le_of_ble_eq_true rfl) (sf_X11_kindAbove _ (fun w145 hr146 => ?_))
      obtain ⟨x147, rfl, t148⟩ := hr146
      show uRun _ (uCall Mt _) _ 268 (_, [(.inl x147), (.inr (.inr (some a1))), (.inr (.inr (some 55)))], _, _, _)
      refine ur_push rfl ?_
      refine ur_ldI rfl rfl ?_
      refine ur_ldI rfl rfl ?_
      have t149 := fO_of (k := 1) hc13 rfl
      refine ur_inl rfl (rcv_of hc13) (Nat.le_of_ble_eq_true rfl) (Nat.le_of_ble_eq_true rfl) (rec hO12 g30 (hu12.tm t1 (by decide)) _ _ (by show 0 ≤ (3 : Int32).toInt ∧ (3 : Int32).toInt ≤ 3; omega) _ _ (by show 0 ≤ a4.toInt ∧ a4.toInt ≤ 25; omega) (by show 25 ≤ a4.toInt + (n : Int); omega) (by omega) (fun w150 h153 hr151 hO153 hv153 hp152 => ?_))
      have hu153 := hv153
      obtain ⟨x154, rfl⟩ := hr151
      show uRun _ (uCall Mt _) _ 275 (_, [(.inl x154)], _, _, _)
      refine ur_push rfl ?_
      refine ur_binV rfl (fun x155 e156 => ?_)
      obtain ⟨f158, hc157, k159⟩ := ok_55 hO153
      have t160 := fO_of (k := 1) hc157 rfl
      exact ur_ret rfl rfl (hQ _ _ ⟨_, rfl⟩ hO153 (hu12.tr hu153) (by omega))
    · refine ur_swi (t := 279) rfl (by rw [t31]; rfl) ?_
      refine ur_ldA rfl rfl ?_
      refine ur_ldA rfl rfl ?_
      refine ur_push rfl ?_
      refine ur_inl rfl rfl (Nat.le_of_ble_eq_true rfl) (Nat.le_of_ble_eq_true rfl) (sf_X11_kindAbove _ (fun w161 hr162 => ?_))
      obtain ⟨x163, rfl, t164⟩ := hr162
      show uRun _ (uCall Mt _) _ 286 (_, [(.inl x163), (.inr (.inr (some a1))), (.inr (.inr (some 55)))], _, _, _)
      refine ur_push rfl ?_
      refine ur_ldI rfl rfl ?_
      refine ur_ldI rfl rfl ?_
      have t165 := fO_of (k := 1) hc13 rfl
      refine ur_inl rfl (rcv_of hc13) (Nat.le_of_ble_eq_true rfl) (Nat.le_of_ble_eq_true rfl) (rec hO12 g30 (hu12.tm t1 (by decide)) _ _ (by show 0 ≤ (1 : Int32).toInt ∧ (1 : Int32).toInt ≤ 3; omega) _ _ (by show 0 ≤ a4.toInt ∧ a4.toInt ≤ 25; omega) (by show 25 ≤ a4.toInt + (n : Int); omega) (by omega) (fun w166 h169 hr167 hO169 hv169 hp168 => ?_))
      have hu169 := hv169
      obtain ⟨x170, rfl⟩ := hr167
      show uRun _ (uCall Mt _) _ 293 (_, [(.inl x170)], _, _, _)
      refine ur_ldA rfl rfl ?_
      refine ur_ldA rfl rfl ?_
      refine ur_ldI rfl rfl ?_
      refine ur_push rfl ?_
      refine ur_push rfl ?_
      refine ur_ldI rfl rfl ?_
      obtain ⟨f172, hc171, k173⟩ := ok_55 hO169
      have t174 := fO_of (k := 1) hc171 rfl
      refine ur_inl rfl (rcv_of hc171) (Nat.le_of_ble_eq_true rfl) (Nat.le_of_ble_eq_true rfl) (rec hO169 g30 (hu169.tm (hu12.tm t1 (by decide)) (by decide)) _ _ (by show 0 ≤ (2 : Int32).toInt ∧ (2 : Int32).toInt ≤ 3; omega) _ _ (by show 0 ≤ a4.toInt ∧ a4.toInt ≤ 25; omega) (by show 25 ≤ a4.toInt + (n : Int); omega) (by omega) (fun w175 h178 hr176 hO178 hv178 hp177 => ?_))
      have hu178 := hv178
      obtain ⟨x179, rfl⟩ := hr176
      show uRun _ (uCall Mt _) _ 304 (_, [(.inl x179), (.inl x170)], _, _, _)
      refine ur_binV rfl (fun x180 e181 => ?_)
      have z182 := any_r x170
      have z183 := any_r x179
      obtain ⟨f185, hc184, k186⟩ := ok_55 hO178
      have t187 := fO_of (k := 1) hc184 rfl
      exact ur_ret rfl rfl (hQ _ _ ⟨_, rfl⟩ hO178 (hu12.tr (hu169.tr hu178)) (by omega))
    · refine ur_swi (t := 306) rfl (by rw [t31]; rfl) ?_
      refine ur_ldA rfl rfl ?_
      refine ur_ldA rfl rfl ?_
      refine ur_push rfl ?_
      refine ur_inl rfl rfl (Nat.le_of_ble_eq_true rfl) (Nat.le_of_ble_eq_true rfl) (sf_X11_kindAbove _ (fun w188 hr189 => ?_))
      obtain ⟨x190, rfl, t191⟩ := hr189
      show uRun _ (uCall Mt _) _ 313 (_, [(.inl x190), (.inr (.inr (some a1))), (.inr (.inr (some 55)))], _, _, _)
      refine ur_push rfl ?_
      refine ur_ldI rfl rfl ?_
      refine ur_push rfl ?_
      refine ur_binV rfl (fun x192 e193 => ?_)
      have z194 := any_r a3
      refine ur_ldI rfl rfl ?_
      have t195 := fO_of (k := 1) hc13 rfl
      refine ur_inl rfl (rcv_of hc13) (Nat.le_of_ble_eq_true rfl) (Nat.le_of_ble_eq_true rfl) (rec hO12 g30 (hu12.tm t1 (by decide)) _ _ (by show 0 ≤ (0 : Int32).toInt ∧ (0 : Int32).toInt ≤ 3; omega) _ _ (by show 0 ≤ a4.toInt ∧ a4.toInt ≤ 25; omega) (by show 25 ≤ a4.toInt + (n : Int); omega) (by omega) (fun w196 h199 hr197 hO199 hv199 hp198 => ?_))
      have hu199 := hv199
      obtain ⟨x200, rfl⟩ := hr197
      show uRun _ (uCall Mt _) _ 322 (_, [(.inl x200)], _, _, _)
      obtain ⟨f202, hc201, k203⟩ := ok_55 hO199
      have t204 := fO_of (k := 1) hc201 rfl
      exact ur_ret rfl rfl (hQ _ _ ⟨_, rfl⟩ hO199 (hu12.tr hu199) (by omega))
    · refine ur_swi (t := 323) rfl (by rw [t31]; rfl) ?_
      refine ur_ldA rfl rfl ?_
      refine ur_ldA rfl rfl ?_
      refine ur_push rfl ?_
      refine ur_inl rfl rfl (Nat.le_of_ble_eq_true rfl) (Nat.le_of_ble_eq_true rfl) (sf_X11_kindAbove _ (fun w205 hr206 => ?_))
      obtain ⟨x207, rfl, t208⟩ := hr206
      show uRun _ (uCall Mt _) _ 330 (_, [(.inl x207), (.inr (.inr (some a1))), (.inr (.inr (some 55)))], _, _, _)
      refine ur_push rfl ?_
      refine ur_ldI rfl rfl ?_
      refine ur_ldI rfl rfl ?_
      have t209 := fO_of (k := 1) hc13 rfl
      refine ur_inl rfl (rcv_of hc13) (Nat.le_of_ble_eq_true rfl) (Nat.le_of_ble_eq_true rfl) (rec hO12 g30 (hu12.tm t1 (by decide)) _ _ (by show 0 ≤ (3 : Int32).toInt ∧ (3 : Int32).toInt ≤ 3; omega) _ _ (by show 0 ≤ a4.toInt ∧ a4.toInt ≤ 25; omega) (by show 25 ≤ a4.toInt + (n : Int); omega) (by omega) (fun w210 h213 hr211 hO213 hv213 hp212 => ?_))
      have hu213 := hv213
      obtain ⟨x214, rfl⟩ := hr211
      show uRun _ (uCall Mt _) _ 337 (_, [(.inl x214)], _, _, _)
      refine ur_push rfl ?_
      refine ur_binV rfl (fun x215 e216 => ?_)
      have z217 := any_r x214
      obtain ⟨f219, hc218, k220⟩ := ok_55 hO213
      have t221 := fO_of (k := 1) hc218 rfl
      exact ur_ret rfl rfl (hQ _ _ ⟨_, rfl⟩ hO213 (hu12.tr hu213) (by omega))
    · refine ur_swi (t := 340) rfl (Eq.trans (congrArg (fun z => ((36 : Nat) : Int) + z) (show Op.lookupswitch.offset [(1, 108), (2, 115), (10, 139), (11, 153), (20, 160), (30, 179), (40, 195), (50, 211), (60, 226), (70, 243), (80, 270), (81, 287)] 304 a2.toInt = 304 by simp only [Op.lookupswitch.offset_cons, Op.lookupswitch.offset_nil]; rw [if_neg (show ¬ ((1) : Int) = a2.toInt by omega), if_neg (show ¬ ((2) : Int) = a2.toInt by omega), if_neg (show ¬ ((10) : Int) = a2.toInt by omega), if_neg (show ¬ ((11) : Int) = a2.toInt by omega), if_neg (show ¬ ((20) : Int) = a2.toInt by omega), if_neg (show ¬ ((30) : Int) = a2.toInt by omega), if_neg (show ¬ ((40) : Int) = a2.toInt by omega), if_neg (show ¬ ((50) : Int) = a2.toInt by omega), if_neg (show ¬ ((60) : Int) = a2.toInt by omega), if_neg (show ¬ ((70) : Int) = a2.toInt by omega), if_neg (show ¬ ((80) : Int) = a2.toInt by omega), if_neg (show ¬ ((81) : Int) = a2.toInt by omega)])) rfl) ?_
      refine ur_push rfl ?_
      have t222 := fO_of (k := 1) hc13 rfl
      exact ur_ret rfl rfl (hQ _ _ ⟨_, rfl⟩ hO12 hu12 (by omega))
  · have t223 := le_no c5
    refine ur_ldA rfl rfl ?_
    refine ur_get rfl hc1 rfl ?_
    refine ur_ldA rfl rfl ?_
    refine ur_get rfl hc1 rfl ?_
    refine ur_ldI rfl rfl ?_
    obtain ⟨xs225, hc224, hn226, he227⟩ := hO0.int (hO0.fix 56 (by decide) rfl)
    refine ur_astV (W := [56, 6501]) (m := 24) rfl hO0 hc224 (by decide) hn226 (by omega) (any_r _) (Or.inr (Or.inr (wid_fix (by decide) (by decide)))) (fun h230 hO230 hu230 d228 hc229 => ?_)
    refine ur_ldA rfl rfl ?_
    refine ur_dup rfl rfl ?_
    refine ur_get rfl ((d228 _ (by decide)).trans hc1) rfl ?_
    refine ur_push rfl ?_
    refine ur_binV rfl (fun x231 e232 => ?_)
    have z233 := any_r f2
    have t234 := ti_add e232 (by omega) (by omega)
    have t235 := fO_of (k := 1) ((d228 _ (by decide)).trans hc1) rfl
    refine ur_putV (W := [56, 6501]) (fs' := [(.inr (.inr (some 56))), (.inl x231)]) rfl hO230 ((d228 _ (by decide)).trans hc1) (Nat.le_of_ble_eq_true rfl) rfl rfl ⟨rfl, _, rfl, by omega⟩ rfl (Or.inr (by show 1000 + 100 * wid 55 (100, 2) + 1 ∈ _; rw [(wid_f (by decide))]; decide)) (fun h237 hO237 hu237 d236 hc238 => ?_)
    refine ur_ldA rfl rfl ?_
    obtain ⟨g255, f240, f241, f242, f243, f244, f245, f246, f247, f248, o252, f249, f250, f251, hc239, k253, k254⟩ := hO237.word (hu237.tm (hu230.tm t1 (by decide)) (by decide))
    refine ur_get rfl hc239 rfl ?_
    refine ur_svIk [some (.inr (.inr (some 55))), some (.inr (.inr (some a1))), some (.inl a2), some (.inl a3), some (.inl a4), some (.inl f241)] rfl rfl ?_
    refine ur_ldI rfl rfl ?_
    rcases (show a2.toInt = 1 ∨ a2.toInt = 2 ∨ a2.toInt = 10 ∨ a2.toInt = 11 ∨ a2.toInt = 20 ∨ a2.toInt = 30 ∨ a2.toInt = 40 ∨ a2.toInt = 50 ∨ a2.toInt = 60 ∨ a2.toInt = 70 ∨ a2.toInt = 80 ∨ a2.toInt = 81 ∨ (a2.toInt ≠ 1 ∧ a2.toInt ≠ 2 ∧ a2.toInt ≠ 10 ∧ a2.toInt ≠ 11 ∧ a2.toInt ≠ 20 ∧ a2.toInt ≠ 30 ∧ a2.toInt ≠ 40 ∧ a2.toInt ≠ 50 ∧ a2.toInt ≠ 60 ∧ a2.toInt ≠ 70 ∧ a2.toInt ≠ 80 ∧ a2.toInt ≠ 81) by omega) with t256 | t256 | t256 | t256 | t256 | t256 | t256 | t256 | t256 | t256 | t256 | t256 | t256
    · refine ur_swi (t := 144) rfl (by rw [t256]; rfl) ?_
      refine ur_ldI rfl rfl ?_
      refine ur_ldA rfl rfl ?_
      refine ur_get rfl hc239 rfl ?_
      refine ur_binV rfl (fun x257 e258 => ?_)
      have z259 := any_r a3
      have z260 := any_r f240
      have t261 := fO_of (k := 1) hc238 rfl
      exact ur_ret rfl rfl (hQ _ _ ⟨_, rfl⟩ hO237 (hu230.tr hu237) (by omega))
    · refine ur_swi (t := 151) rfl (by rw [t256]; rfl) ?_
      refine ur_ldA rfl rfl ?_
      refine ur_ldA rfl rfl ?_
      refine ur_ldI rfl rfl ?_
      refine ur_push rfl ?_
      refine ur_ldI rfl rfl ?_
      refine ur_ldI rfl rfl ?_
      have t262 := fO_of (k := 1) hc238 rfl
      refine ur_inl rfl (rcv_of hc238) (Nat.le_of_ble_eq_true rfl) (Nat.le_of_ble_eq_true rfl) (rec hO237 g255 (hu237.tm (hu230.tm t1 (by decide)) (by decide)) _ _ (by show 0 ≤ (1 : Int32).toInt ∧ (1 : Int32).toInt ≤ 3; omega) _ _ (by show 0 ≤ a4.toInt ∧ a4.toInt ≤ 25; omega) (by show 25 ≤ a4.toInt + (n : Int); omega) (by omega) (fun w263 h266 hr264 hO266 hv266 hp265 => ?_))
      have hu266 := hv266
      obtain ⟨x267, rfl⟩ := hr264
      show uRun _ (uCall Mt _) _ 162 (_, [(.inl x267)], _, _, _)
      refine ur_ldA rfl rfl ?_
      refine ur_ldA rfl rfl ?_
      refine ur_ldI rfl rfl ?_
      refine ur_push rfl ?_
      refine ur_push rfl ?_
      refine ur_ldI rfl rfl ?_
      obtain ⟨f269, hc268, k270⟩ := ok_55 hO266
      have t271 := fO_of (k := 1) hc268 rfl
      refine ur_inl rfl (rcv_of hc268) (Nat.le_of_ble_eq_true rfl) (Nat.le_of_ble_eq_true rfl) (rec hO266 g255 (hu266.tm (hu237.tm (hu230.tm t1 (by decide)) (by decide)) (by decide)) _ _ (by show 0 ≤ (2 : Int32).toInt ∧ (2 : Int32).toInt ≤ 3; omega) _ _ (by show 0 ≤ a4.toInt ∧ a4.toInt ≤ 25; omega) (by show 25 ≤ a4.toInt + (n : Int); omega) (by omega) (fun w272 h275 hr273 hO275 hv275 hp274 => ?_))
      have hu275 := hv275
      obtain ⟨x276, rfl⟩ := hr273
      show uRun _ (uCall Mt _) _ 173 (_, [(.inl x276), (.inl x267)], _, _, _)
      refine ur_binV rfl (fun x277 e278 => ?_)
      have z279 := any_r x267
      have z280 := any_r x276
      obtain ⟨f282, hc281, k283⟩ := ok_55 hO275
      have t284 := fO_of (k := 1) hc281 rfl
      exact ur_ret rfl rfl (hQ _ _ ⟨_, rfl⟩ hO275 (hu230.tr (hu237.tr (hu266.tr hu275))) (by omega))
    · refine ur_swi (t := 175) rfl (by rw [t256]; rfl) ?_
      refine ur_ldA rfl rfl ?_
      refine ur_ldA rfl rfl ?_
      refine ur_ldI rfl rfl ?_
      refine ur_push rfl ?_
      refine ur_ldI rfl rfl ?_
      refine ur_ldI rfl rfl ?_
      have t285 := fO_of (k := 1) hc238 rfl
      refine ur_inl rfl (rcv_of hc238) (Nat.le_of_ble_eq_true rfl) (Nat.le_of_ble_eq_true rfl) (rec hO237 g255 (hu237.tm (hu230.tm t1 (by decide)) (by decide)) _ _ (by show 0 ≤ (0 : Int32).toInt ∧ (0 : Int32).toInt ≤ 3; omega) _ _ (by show 0 ≤ a4.toInt ∧ a4.toInt ≤ 25; omega) (by show 25 ≤ a4.toInt + (n : Int); omega) (by omega) (fun w286 h289 hr287 hO289 hv289 hp288 => ?_))
      have hu289 := hv289
      obtain ⟨x290, rfl⟩ := hr287
      show uRun _ (uCall Mt _) _ 186 (_, [(.inl x290)], _, _, _)
      refine ur_push rfl ?_
      refine ur_binV rfl (fun x291 e292 => ?_)
      have z293 := any_r x290
      obtain ⟨f295, hc294, k296⟩ := ok_55 hO289
      have t297 := fO_of (k := 1) hc294 rfl
      exact ur_ret rfl rfl (hQ _ _ ⟨_, rfl⟩ hO289 (hu230.tr (hu237.tr hu289)) (by omega))
    · refine ur_swi (t := 189) rfl (by rw [t256]; rfl) ?_
      refine ur_ldI rfl rfl ?_
      refine ur_ldA rfl rfl ?_
      refine ur_get rfl hc239 rfl ?_
      refine ur_binV rfl (fun x298 e299 => ?_)
      have t300 := fO_of (k := 1) hc238 rfl
      exact ur_ret rfl rfl (hQ _ _ ⟨_, rfl⟩ hO237 (hu230.tr hu237) (by omega))
    · refine ur_swi (t := 196) rfl (by rw [t256]; rfl) ?_
      refine ur_ldA rfl rfl ?_
      refine ur_ldA rfl rfl ?_
      refine ur_push rfl ?_
      refine ur_inl rfl rfl (Nat.le_of_ble_eq_true rfl) (Nat.le_of_ble_eq_true rfl) (sf_X11_kindAbove _ (fun w301 hr302 => ?_))
      obtain ⟨x303, rfl, t304⟩ := hr302
      show uRun _ (uCall Mt _) _ 202 (_, [(.inl x303), (.inr (.inr (some a1))), (.inr (.inr (some 55)))], _, _, _)
      refine ur_push rfl ?_
      refine ur_ldI rfl rfl ?_
      refine ur_ldI rfl rfl ?_
      have t305 := fO_of (k := 1) hc238 rfl
      refine ur_inl rfl (rcv_of hc238) (Nat.le_of_ble_eq_true rfl) (Nat.le_of_ble_eq_true rfl) (rec hO237 g255 (hu237.tm (hu230.tm t1 (by decide)) (by decide)) _ _ (by show 0 ≤ (1 : Int32).toInt ∧ (1 : Int32).toInt ≤ 3; omega) _ _ (by show 0 ≤ a4.toInt ∧ a4.toInt ≤ 25; omega) (by show 25 ≤ a4.toInt + (n : Int); omega) (by omega) (fun w306 h309 hr307 hO309 hv309 hp308 => ?_))
      have hu309 := hv309
      obtain ⟨x310, rfl⟩ := hr307
      show uRun _ (uCall Mt _) _ 209 (_, [(.inl x310)], _, _, _)
      refine ur_ldA rfl rfl ?_
      refine ur_get rfl (hv309.ko (n := 13) hc239 rfl (wid_w g255) (by decide)) rfl ?_
      refine ur_binV rfl (fun x311 e312 => ?_)
      have z313 := any_r x310
      have z314 := any_r f248
      obtain ⟨f316, hc315, k317⟩ := ok_55 hO309
      have t318 := fO_of (k := 1) hc315 rfl
      exact ur_ret rfl rfl (hQ _ _ ⟨_, rfl⟩ hO309 (hu230.tr (hu237.tr hu309)) (by omega))
    · refine ur_swi (t := 215) rfl (by rw [t256]; rfl) ?_
      refine ur_ldA rfl rfl ?_
      refine ur_ldA rfl rfl ?_
      refine ur_push rfl ?_
      refine ur_inl rfl rfl (Nat.le_of_ble_eq_true rfl) (Nat.le_of_ble_eq_true rfl) (sf_X11_kindAbove _ (fun w319 hr320 => ?_))
      obtain ⟨x321, rfl, t322⟩ := hr320
      show uRun _ (uCall Mt _) _ 221 (_, [(.inl x321), (.inr (.inr (some a1))), (.inr (.inr (some 55)))], _, _, _)
      refine ur_push rfl ?_
      refine ur_ldI rfl rfl ?_
      refine ur_ldI rfl rfl ?_
      have t323 := fO_of (k := 1) hc238 rfl
      refine ur_inl rfl (rcv_of hc238) (Nat.le_of_ble_eq_true rfl) (Nat.le_of_ble_eq_true rfl) (rec hO237 g255 (hu237.tm (hu230.tm t1 (by decide)) (by decide)) _ _ (by show 0 ≤ (2 : Int32).toInt ∧ (2 : Int32).toInt ≤ 3; omega) _ _ (by show 0 ≤ a4.toInt ∧ a4.toInt ≤ 25; omega) (by show 25 ≤ a4.toInt + (n : Int); omega) (by omega) (fun w324 h327 hr325 hO327 hv327 hp326 => ?_))
      have hu327 := hv327
      obtain ⟨x328, rfl⟩ := hr325
      show uRun _ (uCall Mt _) _ 228 (_, [(.inl x328)], _, _, _)
      refine ur_push rfl ?_
      refine ur_binV rfl (fun x329 e330 => ?_)
      have z331 := any_r x328
      obtain ⟨f333, hc332, k334⟩ := ok_55 hO327
      have t335 := fO_of (k := 1) hc332 rfl
      exact ur_ret rfl rfl (hQ _ _ ⟨_, rfl⟩ hO327 (hu230.tr (hu237.tr hu327)) (by omega))
    · refine ur_swi (t := 231) rfl (by rw [t256]; rfl) ?_
      refine ur_ldA rfl rfl ?_
      refine ur_ldA rfl rfl ?_
      refine ur_push rfl ?_
      refine ur_inl rfl rfl (Nat.le_of_ble_eq_true rfl) (Nat.le_of_ble_eq_true rfl) (sf_X11_kindAbove _ (fun w336 hr337 => ?_))
      obtain ⟨x338, rfl, t339⟩ := hr337
      show uRun _ (uCall Mt _) _ 237 (_, [(.inl x338), (.inr (.inr (some a1))), (.inr (.inr (some 55)))], _, _, _)
      refine ur_push rfl ?_
      refine ur_ldI rfl rfl ?_
      refine ur_ldI rfl rfl ?_
      have t340 := fO_of (k := 1) hc238 rfl
      refine ur_inl rfl (rcv_of hc238) (Nat.le_of_ble_eq_true rfl) (Nat.le_of_ble_eq_true rfl) (rec hO237 g255 (hu237.tm (hu230.tm t1 (by decide)) (by decide)) _ _ (by show 0 ≤ (0 : Int32).toInt ∧ (0 : Int32).toInt ≤ 3; omega) _ _ (by show 0 ≤ a4.toInt ∧ a4.toInt ≤ 25; omega) (by show 25 ≤ a4.toInt + (n : Int); omega) (by omega) (fun w341 h344 hr342 hO344 hv344 hp343 => ?_))
      have hu344 := hv344
      obtain ⟨x345, rfl⟩ := hr342
      show uRun _ (uCall Mt _) _ 244 (_, [(.inl x345)], _, _, _)
      refine ur_push rfl ?_
      refine ur_binV rfl (fun x346 e347 => ?_)
      have z348 := any_r x345
      obtain ⟨f350, hc349, k351⟩ := ok_55 hO344
      have t352 := fO_of (k := 1) hc349 rfl
      exact ur_ret rfl rfl (hQ _ _ ⟨_, rfl⟩ hO344 (hu230.tr (hu237.tr hu344)) (by omega))
    · refine ur_swi (t := 247) rfl (by rw [t256]; rfl) ?_
      refine ur_ldA rfl rfl ?_
      refine ur_ldA rfl rfl ?_
      refine ur_push rfl ?_
      refine ur_inl rfl rfl (Nat.le_of_ble_eq_true rfl) (Nat.le_of_ble_eq_true rfl) (sf_X11_kindAbove _ (fun w353 hr354 => ?_))
      obtain ⟨x355, rfl, t356⟩ := hr354
      show uRun _ (uCall Mt _) _ 253 (_, [(.inl x355), (.inr (.inr (some a1))), (.inr (.inr (some 55)))], _, _, _)
      refine ur_push rfl ?_
      refine ur_ldI rfl rfl ?_
      refine ur_ldI rfl rfl ?_
      have t357 := fO_of (k := 1) hc238 rfl
      refine ur_inl rfl (rcv_of hc238) (Nat.le_of_ble_eq_true rfl) (Nat.le_of_ble_eq_true rfl) (rec hO237 g255 (hu237.tm (hu230.tm t1 (by decide)) (by decide)) _ _ (by show 0 ≤ (2 : Int32).toInt ∧ (2 : Int32).toInt ≤ 3; omega) _ _ (by show 0 ≤ a4.toInt ∧ a4.toInt ≤ 25; omega) (by show 25 ≤ a4.toInt + (n : Int); omega) (by omega) (fun w358 h361 hr359 hO361 hv361 hp360 => ?_))
      have hu361 := hv361
      obtain ⟨x362, rfl⟩ := hr359
      show uRun _ (uCall Mt _) _ 260 (_, [(.inl x362)], _, _, _)
      refine ur_unV rfl (fun x363 e364 => ?_)
      have z365 := any_r x362
      obtain ⟨f367, hc366, k368⟩ := ok_55 hO361
      have t369 := fO_of (k := 1) hc366 rfl
      exact ur_ret rfl rfl (hQ _ _ ⟨_, rfl⟩ hO361 (hu230.tr (hu237.tr hu361)) (by omega))
    · refine ur_swi (t := 262) rfl (by rw [t256]; rfl) ?_
      refine ur_ldA rfl rfl ?_
      refine ur_ldA rfl rfl ?_
      refine ur_push rfl ?_
      refine ur_inl rfl rfl (Nat.le_of_ble_eq_true rfl) (Nat.le_of_ble_eq_true rfl) (sf_X11_kindAbove _ (fun w370 hr371 => ?_))
      obtain ⟨x372, rfl, t373⟩ := hr371
      show uRun _ (uCall Mt _) _ 268 (_, [(.inl x372), (.inr (.inr (some a1))), (.inr (.inr (some 55)))], _, _, _)
      refine ur_push rfl ?_
      refine ur_ldI rfl rfl ?_
      refine ur_ldI rfl rfl ?_
      have t374 := fO_of (k := 1) hc238 rfl
      refine ur_inl rfl (rcv_of hc238) (Nat.le_of_ble_eq_true rfl) (Nat.le_of_ble_eq_true rfl) (rec hO237 g255 (hu237.tm (hu230.tm t1 (by decide)) (by decide)) _ _ (by show 0 ≤ (3 : Int32).toInt ∧ (3 : Int32).toInt ≤ 3; omega) _ _ (by show 0 ≤ a4.toInt ∧ a4.toInt ≤ 25; omega) (by show 25 ≤ a4.toInt + (n : Int); omega) (by omega) (fun w375 h378 hr376 hO378 hv378 hp377 => ?_))
      have hu378 := hv378
      obtain ⟨x379, rfl⟩ := hr376
      show uRun _ (uCall Mt _) _ 275 (_, [(.inl x379)], _, _, _)
      refine ur_push rfl ?_
      refine ur_binV rfl (fun x380 e381 => ?_)
      obtain ⟨f383, hc382, k384⟩ := ok_55 hO378
      have t385 := fO_of (k := 1) hc382 rfl
      exact ur_ret rfl rfl (hQ _ _ ⟨_, rfl⟩ hO378 (hu230.tr (hu237.tr hu378)) (by omega))
    · refine ur_swi (t := 279) rfl (by rw [t256]; rfl) ?_
      refine ur_ldA rfl rfl ?_
      refine ur_ldA rfl rfl ?_
      refine ur_push rfl ?_
      refine ur_inl rfl rfl (Nat.le_of_ble_eq_true rfl) (Nat.le_of_ble_eq_true rfl) (sf_X11_kindAbove _ (fun w386 hr387 => ?_))
      obtain ⟨x388, rfl, t389⟩ := hr387
      show uRun _ (uCall Mt _) _ 286 (_, [(.inl x388), (.inr (.inr (some a1))), (.inr (.inr (some 55)))], _, _, _)
      refine ur_push rfl ?_
      refine ur_ldI rfl rfl ?_
      refine ur_ldI rfl rfl ?_
      have t390 := fO_of (k := 1) hc238 rfl
      refine ur_inl rfl (rcv_of hc238) (Nat.le_of_ble_eq_true rfl) (Nat.le_of_ble_eq_true rfl) (rec hO237 g255 (hu237.tm (hu230.tm t1 (by decide)) (by decide)) _ _ (by show 0 ≤ (1 : Int32).toInt ∧ (1 : Int32).toInt ≤ 3; omega) _ _ (by show 0 ≤ a4.toInt ∧ a4.toInt ≤ 25; omega) (by show 25 ≤ a4.toInt + (n : Int); omega) (by omega) (fun w391 h394 hr392 hO394 hv394 hp393 => ?_))
      have hu394 := hv394
      obtain ⟨x395, rfl⟩ := hr392
      show uRun _ (uCall Mt _) _ 293 (_, [(.inl x395)], _, _, _)
      refine ur_ldA rfl rfl ?_
      refine ur_ldA rfl rfl ?_
      refine ur_ldI rfl rfl ?_
      refine ur_push rfl ?_
      refine ur_push rfl ?_
      refine ur_ldI rfl rfl ?_
      obtain ⟨f397, hc396, k398⟩ := ok_55 hO394
      have t399 := fO_of (k := 1) hc396 rfl
      refine ur_inl rfl (rcv_of hc396) (Nat.le_of_ble_eq_true rfl) (Nat.le_of_ble_eq_true rfl) (rec hO394 g255 (hu394.tm (hu237.tm (hu230.tm t1 (by decide)) (by decide)) (by decide)) _ _ (by show 0 ≤ (2 : Int32).toInt ∧ (2 : Int32).toInt ≤ 3; omega) _ _ (by show 0 ≤ a4.toInt ∧ a4.toInt ≤ 25; omega) (by show 25 ≤ a4.toInt + (n : Int); omega) (by omega) (fun w400 h403 hr401 hO403 hv403 hp402 => ?_))
      have hu403 := hv403
      obtain ⟨x404, rfl⟩ := hr401
      show uRun _ (uCall Mt _) _ 304 (_, [(.inl x404), (.inl x395)], _, _, _)
      refine ur_binV rfl (fun x405 e406 => ?_)
      have z407 := any_r x395
      have z408 := any_r x404
      obtain ⟨f410, hc409, k411⟩ := ok_55 hO403
      have t412 := fO_of (k := 1) hc409 rfl
      exact ur_ret rfl rfl (hQ _ _ ⟨_, rfl⟩ hO403 (hu230.tr (hu237.tr (hu394.tr hu403))) (by omega))
    · refine ur_swi (t := 306) rfl (by rw [t256]; rfl) ?_
      refine ur_ldA rfl rfl ?_
      refine ur_ldA rfl rfl ?_
      refine ur_push rfl ?_
      refine ur_inl rfl rfl (Nat.le_of_ble_eq_true rfl) (Nat.le_of_ble_eq_true rfl) (sf_X11_kindAbove _ (fun w413 hr414 => ?_))
      obtain ⟨x415, rfl, t416⟩ := hr414
      show uRun _ (uCall Mt _) _ 313 (_, [(.inl x415), (.inr (.inr (some a1))), (.inr (.inr (some 55)))], _, _, _)
      refine ur_push rfl ?_
      refine ur_ldI rfl rfl ?_
      refine ur_push rfl ?_
      refine ur_binV rfl (fun x417 e418 => ?_)
      have z419 := any_r a3
      refine ur_ldI rfl rfl ?_
      have t420 := fO_of (k := 1) hc238 rfl
      refine ur_inl rfl (rcv_of hc238) (Nat.le_of_ble_eq_true rfl) (Nat.le_of_ble_eq_true rfl) (rec hO237 g255 (hu237.tm (hu230.tm t1 (by decide)) (by decide)) _ _ (by show 0 ≤ (0 : Int32).toInt ∧ (0 : Int32).toInt ≤ 3; omega) _ _ (by show 0 ≤ a4.toInt ∧ a4.toInt ≤ 25; omega) (by show 25 ≤ a4.toInt + (n : Int); omega) (by omega) (fun w421 h424 hr422 hO424 hv424 hp423 => ?_))
      have hu424 := hv424
      obtain ⟨x425, rfl⟩ := hr422
      show uRun _ (uCall Mt _) _ 322 (_, [(.inl x425)], _, _, _)
      obtain ⟨f427, hc426, k428⟩ := ok_55 hO424
      have t429 := fO_of (k := 1) hc426 rfl
      exact ur_ret rfl rfl (hQ _ _ ⟨_, rfl⟩ hO424 (hu230.tr (hu237.tr hu424)) (by omega))
    · refine ur_swi (t := 323) rfl (by rw [t256]; rfl) ?_
      refine ur_ldA rfl rfl ?_
      refine ur_ldA rfl rfl ?_
      refine ur_push rfl ?_
      refine ur_inl rfl rfl (Nat.le_of_ble_eq_true rfl) (Nat.le_of_ble_eq_true rfl) (sf_X11_kindAbove _ (fun w430 hr431 => ?_))
      obtain ⟨x432, rfl, t433⟩ := hr431
      show uRun _ (uCall Mt _) _ 330 (_, [(.inl x432), (.inr (.inr (some a1))), (.inr (.inr (some 55)))], _, _, _)
      refine ur_push rfl ?_
      refine ur_ldI rfl rfl ?_
      refine ur_ldI rfl rfl ?_
      have t434 := fO_of (k := 1) hc238 rfl
      refine ur_inl rfl (rcv_of hc238) (Nat.le_of_ble_eq_true rfl) (Nat.le_of_ble_eq_true rfl) (rec hO237 g255 (hu237.tm (hu230.tm t1 (by decide)) (by decide)) _ _ (by show 0 ≤ (3 : Int32).toInt ∧ (3 : Int32).toInt ≤ 3; omega) _ _ (by show 0 ≤ a4.toInt ∧ a4.toInt ≤ 25; omega) (by show 25 ≤ a4.toInt + (n : Int); omega) (by omega) (fun w435 h438 hr436 hO438 hv438 hp437 => ?_))
      have hu438 := hv438
      obtain ⟨x439, rfl⟩ := hr436
      show uRun _ (uCall Mt _) _ 337 (_, [(.inl x439)], _, _, _)
      refine ur_push rfl ?_
      refine ur_binV rfl (fun x440 e441 => ?_)
      have z442 := any_r x439
      obtain ⟨f444, hc443, k445⟩ := ok_55 hO438
      have t446 := fO_of (k := 1) hc443 rfl
      exact ur_ret rfl rfl (hQ _ _ ⟨_, rfl⟩ hO438 (hu230.tr (hu237.tr hu438)) (by omega))
    · refine ur_swi (t := 340) rfl (Eq.trans (congrArg (fun z => ((36 : Nat) : Int) + z) (show Op.lookupswitch.offset [(1, 108), (2, 115), (10, 139), (11, 153), (20, 160), (30, 179), (40, 195), (50, 211), (60, 226), (70, 243), (80, 270), (81, 287)] 304 a2.toInt = 304 by simp only [Op.lookupswitch.offset_cons, Op.lookupswitch.offset_nil]; rw [if_neg (show ¬ ((1) : Int) = a2.toInt by omega), if_neg (show ¬ ((2) : Int) = a2.toInt by omega), if_neg (show ¬ ((10) : Int) = a2.toInt by omega), if_neg (show ¬ ((11) : Int) = a2.toInt by omega), if_neg (show ¬ ((20) : Int) = a2.toInt by omega), if_neg (show ¬ ((30) : Int) = a2.toInt by omega), if_neg (show ¬ ((40) : Int) = a2.toInt by omega), if_neg (show ¬ ((50) : Int) = a2.toInt by omega), if_neg (show ¬ ((60) : Int) = a2.toInt by omega), if_neg (show ¬ ((70) : Int) = a2.toInt by omega), if_neg (show ¬ ((80) : Int) = a2.toInt by omega), if_neg (show ¬ ((81) : Int) = a2.toInt by omega)])) rfl) ?_
      refine ur_push rfl ?_
      have t447 := fO_of (k := 1) hc238 rfl
      exact ur_ret rfl rfl (hQ _ _ ⟨_, rfl⟩ hO237 (hu230.tr hu237) (by omega))

set_option maxRecDepth 20000 in
set_option maxHeartbeats 4000000 in
theorem sf_X0_call_s {d kc ks : Nat} {h0 : aH} {Q : Option aV → aH → Prop} (n : Nat) (rec : ∀ {kc ks : Nat} {h0 : aH} {Q : Option aV → aH → Prop}, OK h0 → ∀ {a1 : Nat}, 114 ≤ a1 → tg h0 a1 = (110, 13) → ∀ (a2 a3 : Int32), (0 ≤ a3.toInt ∧ a3.toInt ≤ 3) → ∀ (a4 a5 : Int32), (0 ≤ a5.toInt ∧ a5.toInt ≤ 25) → (25 ≤ a5.toInt + (n : Int)) → (fO h0 55 1 + bq n ≤ 90000000) → (∀ r h', (∃ x, r = some (.inl x)) → OK h' → un [56, 6501] h0 h' → (fO h' 55 1 ≤ fO h0 55 1 + bq n) → Q r h') → uCall Mt (d + 2) 4 [(.inr (.inr (some 55))), (.inr (.inr (some a1))), (.inl a2), (.inl a3), (.inl a4), (.inl a5)] h0 kc ks Q) (hb0 : 0 ≤ bq n) (hO0 : OK h0) {a1 : Nat} (g1 : 114 ≤ a1) (t1 : tg h0 a1 = (110, 13)) (a2 : Int32) (a3 : Int32) (b3 : 0 ≤ a3.toInt ∧ a3.toInt ≤ 3) (a4 : Int32) (a5 : Int32) (b5 : 0 ≤ a5.toInt ∧ a5.toInt ≤ 25) (e5 : 25 ≤ a5.toInt + ((n + 1 : Nat) : Int)) (pre0 : fO h0 55 1 + (1 + 2 * bq n) ≤ 90000000) (hQ : ∀ r h', (∃ x, r = some (.inl x)) → OK h' → un [56, 6501] h0 h' → (fO h' 55 1 ≤ fO h0 55 1 + (1 + 2 * bq n)) → Q r h') : uCall Mt (d + 4) 4 [(.inr (.inr (some 55))), (.inr (.inr (some a1))), (.inl a2), (.inl a3), (.inl a4), (.inl a5)] h0 kc ks Q := by
  have l_0 : ((0) : Int32).toInt = 0 := by decide
  have l_1 : ((1) : Int32).toInt = 1 := by decide
  have l_7 : ((7) : Int32).toInt = 7 := by decide
  have l_8 : ((8) : Int32).toInt = 8 := by decide
  have l_24 : ((24) : Int32).toInt = 24 := by decide
  refine uc_ink [some (.inr (.inr (some 55))), some (.inr (.inr (some a1))), some (.inl a2), some (.inl a3), some (.inl a4), some (.inl a5), none, none, none] mt_4 (Nat.le_of_ble_eq_true rfl) rfl ?_
  obtain ⟨f2, hc1, k3⟩ := ok_55 hO0
  have t4 := fO_of (k := 1) hc1 rfl
  refine ur_ldI rfl rfl ?_
  refine ur_push rfl ?_
  refine ur_if2 rfl (fun c5 => ?_) (fun c5 => ?_)
  · have t6 := le_to c5
    refine ur_ldI rfl rfl ?_
    refine ur_svIk [some (.inr (.inr (some 55))), some (.inr (.inr (some a1))), some (.inl a2), some (.inl a3), some (.inl a4), some (.inl a5), some (.inl a2), none, none] rfl rfl ?_
    refine ur_push rfl ?_
    refine ur_svIk [some (.inr (.inr (some 55))), some (.inr (.inr (some a1))), some (.inl a2), some (.inl a3), some (.inl a4), some (.inl a5), some (.inl a2), some (.inl 0), none] rfl rfl ?_
    have L10 : ∀ (m11 : Nat) (x7 : Int32) (x8 : Int32) (u9 : Option aV) , ((0 ≤ x8.toInt ∧ x8.toInt ≤ 2147483647)) → ((2147483648 - x8.toInt).toNat) < m11 → uRun oX0_call (uCall Mt (d + 3)) Q 15 ([some (.inr (.inr (some 55))), some (.inr (.inr (some a1))), some (.inl a2), some (.inl a3), some (.inl a4), some (.inl a5), some (.inl x7), some (.inl x8), u9], [], h0, kc, ks) := by
      intro m11
      induction m11 with
      | zero => intro x7 x8 u9 iv13 mm14; omega
      | succ m11 ih12 =>
        intro x7 x8 u9 iv13 mm14
        refine ur_ldI rfl rfl ?_
        refine ur_push rfl ?_
        refine ur_if2 rfl (fun c15 => ?_) (fun c15 => ?_)
        · have t16 := le_to c15
          refine ur_push rfl ?_
          exact ur_ret rfl rfl (hQ _ _ ⟨_, rfl⟩ hO0 un.rf (by omega))
        · have t17 := le_no c15
          refine ur_ldI rfl rfl ?_
          refine ur_push rfl ?_
          refine ur_push rfl ?_
          refine ur_callv rfl rfl (Nat.le_of_ble_eq_true rfl) (Nat.le_of_ble_eq_true rfl) rfl (sp_within _ _ _ _ _) ?_
          refine ur_eqB rfl (fun c20 => ?_) (fun c20 => ?_)
          · have t21 := wi_noL c20 l_0 l_7
            refine ur_push rfl ?_
            exact ur_ret rfl rfl (hQ _ _ ⟨_, rfl⟩ hO0 un.rf (by omega))
          · have t22 := wi_toL c20 l_0 l_7
            refine ur_bod rfl rfl rfl (by omega) (by omega) (fun x23 e25 => ?_)
            refine ur_svIk [some (.inr (.inr (some 55))), some (.inr (.inr (some a1))), some (.inl a2), some (.inl a3), some (.inl a4), some (.inl a5), some (.inl x7), some (.inl x8), some (.inl x23)] rfl rfl ?_
            refine ur_ldI rfl rfl ?_
            refine ur_if1 rfl (fun c26 => ?_) (fun c26 => ?_)
            · have t27 := eq_to c26
              refine ur_ldI rfl rfl ?_
              refine ur_inl rfl rfl (Nat.le_of_ble_eq_true rfl) (Nat.le_of_ble_eq_true rfl) (sf_X11_kindAbove _ (fun w28 hr29 => ?_))
              obtain ⟨x30, rfl, t31⟩ := hr29
              show uRun _ (uCall Mt _) _ 69 (_, [(.inl x30)], _, _, _)
              refine ur_svIk [some (.inr (.inr (some 55))), some (.inr (.inr (some a1))), some (.inl a2), some (.inl a3), some (.inl a4), some (.inl a5), some (.inl x30), some (.inl x8), some (.inl x23)] rfl rfl ?_
              refine ur_incV (fun z => [some (.inr (.inr (some 55))), some (.inr (.inr (some a1))), some (.inl a2), some (.inl a3), some (.inl a4), some (.inl a5), some (.inl x30), some (.inl z), some (.inl x23)]) rfl rfl (fun _ => rfl) (fun x32 e33 => ?_)
              have z34 := any_r x8
              have t35 := ti_add e33 (by omega) (by omega)
              refine ur_go rfl ?_
              have z36 := any_r x32
              exact ih12 x30 x32 _ (by omega) (by omega)
            · have t37 := eq_no c26
              refine ur_ldA rfl rfl ?_
              refine ur_ldA rfl rfl ?_
              refine ur_ldI rfl rfl ?_
              refine ur_ldI rfl rfl ?_
              refine ur_ldI rfl rfl ?_
              refine ur_push rfl ?_
              refine ur_binV rfl (fun x38 e39 => ?_)
              have z40 := any_r a5
              have t41 := ti_add e39 (by omega) (by omega)
              refine ur_inl rfl (rcv_of hc1) (Nat.le_of_ble_eq_true rfl) (Nat.le_of_ble_eq_true rfl) (sf_X0_runBody n rec hb0 hO0 g1 t1 _ _ _ (by show 0 ≤ x38.toInt ∧ x38.toInt ≤ 25; omega) (by show 25 ≤ x38.toInt + (n : Int); omega) (by omega) (fun w42 h45 hr43 hO45 hv45 hp44 => ?_))
              have hu45 := hv45
              obtain ⟨x46, rfl⟩ := hr43
              show uRun _ (uCall Mt _) _ 63 (_, [(.inl x46)], _, _, _)
              obtain ⟨f48, hc47, k49⟩ := ok_55 hO45
              have t50 := fO_of (k := 1) hc47 rfl
              exact ur_ret rfl rfl (hQ _ _ ⟨_, rfl⟩ hO45 hu45 (by omega))
    exact L10 _ a2 0 (none) (by omega) (Nat.lt_succ_self _)
  · have t51 := le_no c5
    refine ur_push rfl ?_
    exact ur_ret rfl rfl (hQ _ _ ⟨_, rfl⟩ hO0 un.rf (by omega))

set_option maxRecDepth 20000 in
set_option maxHeartbeats 4000000 in
theorem sf_X0_call_0 {d kc ks : Nat} {h0 : aH} {Q : Option aV → aH → Prop} (hO0 : OK h0) {a1 : Nat} (g1 : 114 ≤ a1) (t1 : tg h0 a1 = (110, 13)) (a2 : Int32) (a3 : Int32) (b3 : 0 ≤ a3.toInt ∧ a3.toInt ≤ 3) (a4 : Int32) (a5 : Int32) (b5 : 25 ≤ a5.toInt ∧ a5.toInt ≤ 25) (hQ : ∀ r, (∃ x, r = some (.inl x)) → Q r h0) : uCall Mt (d + 2) 4 [(.inr (.inr (some 55))), (.inr (.inr (some a1))), (.inl a2), (.inl a3), (.inl a4), (.inl a5)] h0 kc ks Q := by
  have l_0 : ((0) : Int32).toInt = 0 := by decide
  have l_24 : ((24) : Int32).toInt = 24 := by decide
  refine uc_ink [some (.inr (.inr (some 55))), some (.inr (.inr (some a1))), some (.inl a2), some (.inl a3), some (.inl a4), some (.inl a5), none, none, none] mt_4 (Nat.le_of_ble_eq_true rfl) rfl ?_
  refine ur_ldI rfl rfl ?_
  refine ur_push rfl ?_
  refine ur_if2 rfl (fun c1 => ?_) (fun c1 => ?_)
  · have t2 := le_to c1
    exfalso
    omega
  · have t3 := le_no c1
    refine ur_push rfl ?_
    exact ur_ret rfl rfl (hQ _ ⟨_, rfl⟩ )

theorem sf_X0_call (n : Nat) : ∀ {d kc ks : Nat} {h0 : aH} {Q : Option aV → aH → Prop}, OK h0 → ∀ {a1 : Nat}, 114 ≤ a1 → tg h0 a1 = (110, 13) → ∀ (a2 a3 : Int32), (0 ≤ a3.toInt ∧ a3.toInt ≤ 3) → ∀ (a4 a5 : Int32), (0 ≤ a5.toInt ∧ a5.toInt ≤ 25) → (25 ≤ a5.toInt + (n : Int)) → (fO h0 55 1 + bq n ≤ 90000000) → (∀ r h', (∃ x, r = some (.inl x)) → OK h' → un [56, 6501] h0 h' → (fO h' 55 1 ≤ fO h0 55 1 + bq n) → Q r h') → uCall Mt (d + 2 * n + 2) 4 [(.inr (.inr (some 55))), (.inr (.inr (some a1))), (.inl a2), (.inl a3), (.inl a4), (.inl a5)] h0 kc ks Q := by
  induction n with
  | zero => exact fun {d kc ks h0 Q} hO a1 g t a2 a3 b a4 a5 c e p k => uCall_le (show d + 2 ≤ d + 2 * 0 + 2 by omega) (sf_X0_call_0 hO g t a2 a3 b a4 a5 (by omega) (fun r hr => k r h0 hr hO un.rf (by show fO h0 55 1 ≤ fO h0 55 1 + 0; omega)))
  | succ n ih => exact fun {d kc ks h0 Q} hO a1 g t a2 a3 b a4 a5 c e p k => uCall_le (show d + 2 * n + 4 ≤ d + 2 * (n + 1) + 2 by omega) (sf_X0_call_s (d := d + 2 * n) n (fun {kc ks h0 Q} hO {a1} g t a2 a3 b a4 a5 c e p k => ih hO g t a2 a3 b a4 a5 c e p k) (bq_0 n) hO g t a2 a3 b a4 a5 c e (by rw [bq_s] at p; exact p) (fun r h' hr hO' hu hp => k r h' hr hO' hu (by rw [bq_s]; exact hp)))

theorem sf_X0_callF {d kc ks : Nat} {h0 : aH} {Q : Option aV → aH → Prop} (hO0 : OK h0) {a1 : Nat} (g1 : 114 ≤ a1) (t1 : tg h0 a1 = (110, 13)) (a2 a3 : Int32) (b3 : 0 ≤ a3.toInt ∧ a3.toInt ≤ 3) (a4 a5 : Int32) (b5 : 0 ≤ a5.toInt ∧ a5.toInt ≤ 25) (e5 : 25 ≤ a5.toInt + ((25 : Nat) : Int)) (p : fO h0 55 1 ≤ 0) (hQ : ∀ r h', (∃ x, r = some (.inl x)) → OK h' → un [56, 6501] h0 h' → True → Q r h') : uCall Mt (d + 52) 4 [(.inr (.inr (some 55))), (.inr (.inr (some a1))), (.inl a2), (.inl a3), (.inl a4), (.inl a5)] h0 kc ks Q := uCall_le (show d + 2 * 25 + 2 ≤ d + 52 by omega) (sf_X0_call 25 hO0 g1 t1 a2 a3 b3 a4 a5 b5 e5 (by have := bq_25; omega) (fun r h' hr hO' hu _ => hQ r h' hr hO' hu trivial))

set_option maxRecDepth 20000 in
set_option maxHeartbeats 4000000 in
theorem sf_X0_perform {d kc ks : Nat} {h0 : aH} {Q : Option aV → aH → Prop} (hO0 : OK h0) {a1 : Nat} (g1 : 114 ≤ a1) (t1 : tg h0 a1 = (110, 13)) (a2 : Int32) (b2 : 0 ≤ a2.toInt ∧ a2.toInt ≤ 3) (a3 : Int32) (pre0 : fO h0 55 1 ≤ 0) (hQ : ∀ r h', (∃ x, r = some (.inl x)) → OK h' → un [56, 6501] h0 h' → Q r h') : uCall Mt (d + 53) 3 [(.inr (.inr (some 55))), (.inr (.inr (some a1))), (.inl a2), (.inl a3)] h0 kc ks Q := by
  have l_0 : ((0) : Int32).toInt = 0 := by decide
  refine uc_ink [some (.inr (.inr (some 55))), some (.inr (.inr (some a1))), some (.inl a2), some (.inl a3)] mt_3 (Nat.le_of_ble_eq_true rfl) rfl ?_
  obtain ⟨f2, hc1, k3⟩ := ok_55 hO0
  have t4 := fO_of (k := 1) hc1 rfl
  refine ur_ldA rfl rfl ?_
  refine ur_ldA rfl rfl ?_
  refine ur_ldA rfl rfl ?_
  obtain ⟨g21, f6, f7, f8, f9, f10, f11, f12, f13, f14, o18, f15, f16, f17, hc5, k19, k20⟩ := hO0.word t1
  refine ur_get rfl hc5 rfl ?_
  refine ur_ldI rfl rfl ?_
  refine ur_ldI rfl rfl ?_
  refine ur_push rfl ?_
  refine ur_inl rfl (rcv_of hc1) (Nat.le_of_ble_eq_true rfl) (Nat.le_of_ble_eq_true rfl) (sf_X0_callF hO0 g21 t1 _ _ (by show 0 ≤ a2.toInt ∧ a2.toInt ≤ 3; omega) _ _ (by show 0 ≤ (0 : Int32).toInt ∧ (0 : Int32).toInt ≤ 25; omega) (by show 25 ≤ (0 : Int32).toInt + ((25 : Nat) : Int); omega) (by omega) (fun w22 h25 hr23 hO25 hv25 hp24 => ?_))
  have hu25 := hv25
  obtain ⟨x26, rfl⟩ := hr23
  show uRun _ (uCall Mt _) _ 12 (_, [(.inl x26)], _, _, _)
  obtain ⟨f28, hc27, k29⟩ := ok_55 hO25
  have t30 := fO_of (k := 1) hc27 rfl
  exact ur_ret rfl rfl (hQ _ _ ⟨_, rfl⟩ hO25 hu25)

set_option maxRecDepth 20000 in
set_option maxHeartbeats 4000000 in
theorem sf_X11_act {d kc ks : Nat} {h0 : aH} {Q : Option aV → aH → Prop} (hO0 : OK h0) (a1 : Int32) (a2 : Int32) (a3 : Int32) (hQ : ∀ r h', (∃ x, r = some (.inl x)) → OK h' → un [56, 6501] h0 h' → Q r h') : uCall Mt (d + 54) 157 [(.inr (.inr (some 0))), (.inl a1), (.inl a2), (.inl a3)] h0 kc ks Q := by
  have l_0 : ((0) : Int32).toInt = 0 := by decide
  have l_3 : ((3) : Int32).toInt = 3 := by decide
  refine uc_ink [some (.inr (.inr (some 0))), some (.inl a1), some (.inl a2), some (.inl a3), none] mt_157 (Nat.le_of_ble_eq_true rfl) rfl ?_
  obtain ⟨f2, hc1, k3⟩ := ok_55 hO0
  have t4 := fO_of (k := 1) hc1 rfl
  refine ur_ldA rfl rfl ?_
  obtain ⟨hc5, k6⟩ := ok_0 hO0
  refine ur_get rfl hc5 rfl ?_
  refine ur_inl rfl (rcv_of hc1) (Nat.le_of_ble_eq_true rfl) (Nat.le_of_ble_eq_true rfl) (sf_X0_clear hO0  (fun w7 h10 hr8 hO10 hv10 hp9 => ?_))
  have hu10 : un [56, 6501] h0 h10 := hv10.mono (by decide)
  subst hr8
  show uRun _ (uCall Mt _) _ 7 (_, [], _, _, _)
  refine ur_ldA rfl rfl ?_
  refine ur_get rfl (hv10.ko (n := 8) hc5 rfl (wid_f (by decide)) (by decide)) rfl ?_
  refine ur_ldI rfl rfl ?_
  obtain ⟨f12, f13, f14, f15, hc11, k16⟩ := ok_15 hO10
  refine ur_inl rfl (rcv_of hc11) (Nat.le_of_ble_eq_true rfl) (Nat.le_of_ble_eq_true rfl) (sf_X1_wordAt hO10 _ (fun w17 hr18 => ?_))
  obtain ⟨o19, rfl, k20⟩ := hr18
  show uRun _ (uCall Mt _) _ 15 (_, [(.inr (.inr o19))], _, _, _)
  refine ur_svAk [some (.inr (.inr (some 0))), some (.inl a1), some (.inl a2), some (.inl a3), some (.inr (.inr o19))] rfl rfl ?_
  refine ur_ldA rfl rfl ?_
  cases o19 with
  | none =>
    refine ur_nulN rfl ?_
    refine ur_push rfl ?_
    obtain ⟨f23, hc22, k24⟩ := ok_55 hO10
    have t25 := fO_of (k := 1) hc22 rfl
    exact ur_ret rfl rfl (hQ _ _ ⟨_, rfl⟩ hO10 hu10)
  | some r21 =>
    refine ur_nulS rfl ?_
    have k26 := k20 _ rfl
    refine ur_ldI rfl rfl ?_
    refine ur_push rfl ?_
    refine ur_push rfl ?_
    refine ur_callv rfl rfl (Nat.le_of_ble_eq_true rfl) (Nat.le_of_ble_eq_true rfl) rfl (sp_within _ _ _ _ _) ?_
    refine ur_neB rfl (fun c29 => ?_) (fun c29 => ?_)
    · have t30 := wi_toL c29 l_0 l_3
      refine ur_ldA rfl rfl ?_
      refine ur_get rfl (hv10.ko (n := 8) hc5 rfl (wid_f (by decide)) (by decide)) rfl ?_
      refine ur_ldA rfl rfl ?_
      refine ur_ldI rfl rfl ?_
      refine ur_ldI rfl rfl ?_
      obtain ⟨f32, hc31, k33⟩ := ok_55 hO10
      have t34 := fO_of (k := 1) hc31 rfl
      refine ur_inl rfl (rcv_of hc31) (Nat.le_of_ble_eq_true rfl) (Nat.le_of_ble_eq_true rfl) (sf_X0_perform hO10 k26.1 k26.2 _ (by show 0 ≤ a2.toInt ∧ a2.toInt ≤ 3; omega) _ (by omega) (fun w35 h37 hr36 hO37 hv37 => ?_))
      have hu37 := hv37
      obtain ⟨x38, rfl⟩ := hr36
      show uRun _ (uCall Mt _) _ 44 (_, [(.inl x38)], _, _, _)
      obtain ⟨f40, hc39, k41⟩ := ok_55 hO37
      have t42 := fO_of (k := 1) hc39 rfl
      exact ur_ret rfl rfl (hQ _ _ ⟨_, rfl⟩ hO37 (hu10.tr hu37))
    · have t43 := wi_noL c29 l_0 l_3
      refine ur_push rfl ?_
      obtain ⟨f45, hc44, k46⟩ := ok_55 hO10
      have t47 := fO_of (k := 1) hc44 rfl
      exact ur_ret rfl rfl (hQ _ _ ⟨_, rfl⟩ hO10 hu10)
end CT3
