/-! THE COUNTERS behind each call, printed by program -/
section CTR
theorem ti_subw {x y z : Int32} (e : x - y = z) : z.toInt = x.toInt - y.toInt ∨ z.toInt = x.toInt - y.toInt - 4294967296 ∨ z.toInt = x.toInt - y.toInt + 4294967296 := by
  have h1 := Int32.le_toInt x
  have h2 := Int32.toInt_lt x
  have h3 := Int32.le_toInt y
  have h4 := Int32.toInt_lt y
  rw [← e, Int32.toInt_sub]
  unfold Int.bmod
  simp only []
  split <;> omega
theorem fO_keep {W : List Nat} {h h' : aH} {a k ci n : Nat} (hO : OK h) (hO' : OK h') (g : un W h h') (ha : a < 114) (ht : T0.getD a (999, 0) = (100 + ci, n)) (hc : ci < 13) (h1 : scr ci k = false) (h2 : 1000 + 100 * a + k ∉ W) : fO h' a k = fO h a k := by
  obtain ⟨fs, c1, e1, -⟩ := hO.obj (hO.fix a ha ht) hc
  obtain ⟨gs, c2, e2, -⟩ := hO'.obj (hO'.fix a ha ht) hc
  have e := g.fe c1 c2 k (wid_f ha) h1 h2
  unfold fO
  rw [c1, c2]
  show (match gs[k]? with
    | some (Sum.inl x) => x.toInt
    | _ => 0) = (match fs[k]? with
    | some (Sum.inl x) => x.toInt
    | _ => 0)
  rw [e]
set_option maxRecDepth 20000 in
set_option maxHeartbeats 4000000 in
theorem sd_X3_addEvening {d kc ks : Nat} {h0 : aH} {Q : Option aV → aH → Prop} (hO0 : OK h0) (a1 : Int32) (a2 : Int32) (hQ : ∀ r h', (∃ x : Int32, r = some (.inl x) ∧ (5 ≤ fO h0 52 2 ∧ x.toInt = -3 ∧ fO h' 52 2 = fO h0 52 2 ∨ fO h0 52 2 < 5 ∧ x.toInt = fO h0 52 2 + 1 ∧ fO h' 52 2 = fO h0 52 2 + 1)) → OK h' → un [53, 54, 6202] h0 h' → Q r h') : uCall Mt (d + 1) 27 [(.inr (.inr (some 52))), (.inl a1), (.inl a2)] h0 kc ks Q := by
  have l_m3 : ((-3) : Int32).toInt = -3 := by decide
  have l_1 : ((1) : Int32).toInt = 1 := by decide
  have l_5 : ((5) : Int32).toInt = 5 := by decide
  refine uc_ink [some (.inr (.inr (some 52))), some (.inl a1), some (.inl a2)] mt_27 (Nat.le_of_ble_eq_true rfl) rfl ?_
  obtain ⟨f2, hc1, k3⟩ := ok_52 hO0
  have t4 := fO_of (k := 2) hc1 rfl
  refine ur_ldA rfl rfl ?_
  refine ur_get rfl hc1 rfl ?_
  refine ur_push rfl ?_
  refine ur_if2 rfl (fun c5 => ?_) (fun c5 => ?_)
  · have t6 := lt_to c5
    refine ur_ldA rfl rfl ?_
    refine ur_get rfl hc1 rfl ?_
    refine ur_ldA rfl rfl ?_
    refine ur_get rfl hc1 rfl ?_
    refine ur_ldI rfl rfl ?_
    obtain ⟨xs8, hc7, hn9, he10⟩ := hO0.int (hO0.fix 53 (by decide) rfl)
    refine ur_astV (W := [53, 54, 6202]) (m := 5) rfl hO0 hc7 (by decide) hn9 (by omega) (any_r _) (Or.inr (Or.inr (wid_fix (by decide) (by decide)))) (fun h13 hO13 hu13 d11 hc12 => ?_)
    refine ur_ldA rfl rfl ?_
    refine ur_get rfl ((d11 _ (by decide)).trans hc1) rfl ?_
    have t14 := fO_of (k := 2) ((d11 _ (by decide)).trans hc1) rfl
    refine ur_ldA rfl rfl ?_
    refine ur_get rfl ((d11 _ (by decide)).trans hc1) rfl ?_
    refine ur_ldI rfl rfl ?_
    obtain ⟨xs16, hc15, hn17, he18⟩ := hO13.int (hO13.fix 54 (by decide) rfl)
    refine ur_astV (W := [53, 54, 6202]) (m := 5) rfl hO13 hc15 (by decide) hn17 (by omega) (any_r _) (Or.inr (Or.inr (wid_fix (by decide) (by decide)))) (fun h21 hO21 hu21 d19 hc20 => ?_)
    refine ur_ldA rfl rfl ?_
    refine ur_dup rfl rfl ?_
    refine ur_get rfl ((d19 _ (by decide)).trans ((d11 _ (by decide)).trans hc1)) rfl ?_
    have t22 := fO_of (k := 2) ((d19 _ (by decide)).trans ((d11 _ (by decide)).trans hc1)) rfl
    refine ur_push rfl ?_
    refine ur_binV rfl (fun x23 e24 => ?_)
    have z25 := any_r f2
    have t26 := ti_add e24 (by omega) (by omega)
    refine ur_putV (W := [53, 54, 6202]) (fs' := [(.inr (.inr (some 53))), (.inr (.inr (some 54))), (.inl x23)]) rfl hO21 ((d19 _ (by decide)).trans ((d11 _ (by decide)).trans hc1)) (Nat.le_of_ble_eq_true rfl) rfl rfl ⟨rfl, _, rfl, by omega⟩ rfl (Or.inr (by show 1000 + 100 * wid 52 (103, 3) + 2 ∈ _; rw [(wid_f (by decide))]; decide)) (fun h28 hO28 hu28 d27 hc29 => ?_)
    refine ur_ldA rfl rfl ?_
    refine ur_get rfl hc29 rfl ?_
    have t30 := fO_of (k := 2) hc29 rfl
    exact ur_ret rfl rfl (hQ _ _ ⟨_, rfl, Or.inr ⟨by omega, by omega, by omega⟩⟩ hO28 (hu13.tr (hu21.tr hu28)))
  · have t31 := lt_no c5
    refine ur_push rfl ?_
    exact ur_ret rfl rfl (hQ _ _ ⟨_, rfl, Or.inl ⟨by omega, by omega, by omega⟩⟩ hO0 un.rf)

set_option maxRecDepth 20000 in
set_option maxHeartbeats 4000000 in
theorem sd_X11_observed {d kc ks : Nat} {h0 : aH} {Q : Option aV → aH → Prop} (hO0 : OK h0) (a1 : Int32) (a2 : Int32) (hQ : ∀ r h', (∃ x : Int32, r = some (.inl x) ∧ (¬ ((0 ≤ a1.toInt ∧ a1.toInt ≤ 999999) ∧ (0 ≤ a2.toInt ∧ a2.toInt ≤ 359)) ∧ x.toInt = -1 ∧ fO h' 52 2 = fO h0 52 2 ∨ ((0 ≤ a1.toInt ∧ a1.toInt ≤ 999999) ∧ (0 ≤ a2.toInt ∧ a2.toInt ≤ 359)) ∧ 5 ≤ fO h0 52 2 ∧ x.toInt = -3 ∧ fO h' 52 2 = fO h0 52 2 ∨ ((0 ≤ a1.toInt ∧ a1.toInt ≤ 999999) ∧ (0 ≤ a2.toInt ∧ a2.toInt ≤ 359)) ∧ fO h0 52 2 < 5 ∧ x.toInt = fO h0 52 2 + 1 ∧ fO h' 52 2 = fO h0 52 2 + 1)) → OK h' → un [53, 54, 6202] h0 h' → Q r h') : uCall Mt (d + 3) 147 [(.inr (.inr (some 0))), (.inl a1), (.inl a2)] h0 kc ks Q := by
  have l_m3 : ((-3) : Int32).toInt = -3 := by decide
  have l_m1 : ((-1) : Int32).toInt = -1 := by decide
  have l_0 : ((0) : Int32).toInt = 0 := by decide
  have l_5 : ((5) : Int32).toInt = 5 := by decide
  have l_359 : ((359) : Int32).toInt = 359 := by decide
  have l_999999 : ((999999) : Int32).toInt = 999999 := by decide
  refine uc_ink [some (.inr (.inr (some 0))), some (.inl a1), some (.inl a2)] mt_147 (Nat.le_of_ble_eq_true rfl) rfl ?_
  obtain ⟨f2, hc1, k3⟩ := ok_52 hO0
  have t4 := fO_of (k := 2) hc1 rfl
  refine ur_ldI rfl rfl ?_
  refine ur_callv rfl rfl (Nat.le_of_ble_eq_true rfl) (Nat.le_of_ble_eq_true rfl) rfl (sp_isDay _ _) ?_
  refine ur_eqB rfl (fun c7 => ?_) (fun c7 => ?_)
  · have t8 := wi_noL c7 l_0 l_999999
    refine ur_push rfl ?_
    exact ur_ret rfl rfl (hQ _ _ ⟨_, rfl, Or.inl ⟨by omega, by omega, by omega⟩⟩ hO0 un.rf)
  · have t9 := wi_toL c7 l_0 l_999999
    refine ur_ldI rfl rfl ?_
    refine ur_push rfl ?_
    refine ur_push rfl ?_
    refine ur_callv rfl rfl (Nat.le_of_ble_eq_true rfl) (Nat.le_of_ble_eq_true rfl) rfl (sp_within _ _ _ _ _) ?_
    refine ur_neB rfl (fun c12 => ?_) (fun c12 => ?_)
    · have t13 := wi_toL c12 l_0 l_359
      refine ur_ldA rfl rfl ?_
      obtain ⟨hc14, k15⟩ := ok_0 hO0
      refine ur_get rfl hc14 rfl ?_
      refine ur_get rfl hc1 rfl ?_
      refine ur_push rfl ?_
      refine ur_if2 rfl (fun c16 => ?_) (fun c16 => ?_)
      · have t17 := lt_to c16
        refine ur_ldA rfl rfl ?_
        refine ur_get rfl hc14 rfl ?_
        refine ur_ldI rfl rfl ?_
        refine ur_ldI rfl rfl ?_
        refine ur_inl rfl (rcv_of hc1) (Nat.le_of_ble_eq_true rfl) (Nat.le_of_ble_eq_true rfl) (sd_X3_addEvening hO0 _ _ (fun w18 h20 hr19 hO20 hv20 => ?_))
        have hu20 := hv20
        obtain ⟨x21, rfl, t22⟩ := hr19
        show uRun _ (uCall Mt _) _ 43 (_, [(.inl x21)], _, _, _)
        obtain ⟨f24, hc23, k25⟩ := ok_52 hO20
        have t26 := fO_of (k := 2) hc23 rfl
        exact ur_ret rfl rfl (hQ _ _ ⟨_, rfl, Or.inr (Or.inr ⟨by omega, by omega, by omega, by omega⟩)⟩ hO20 hu20)
      · have t27 := lt_no c16
        refine ur_push rfl ?_
        exact ur_ret rfl rfl (hQ _ _ ⟨_, rfl, Or.inr (Or.inl ⟨by omega, by omega, by omega, by omega⟩)⟩ hO0 un.rf)
    · have t28 := wi_noL c12 l_0 l_359
      refine ur_push rfl ?_
      exact ur_ret rfl rfl (hQ _ _ ⟨_, rfl, Or.inl ⟨by omega, by omega, by omega⟩⟩ hO0 un.rf)

set_option maxRecDepth 20000 in
set_option maxHeartbeats 4000000 in
theorem sd_X11_forget {d kc ks : Nat} {h0 : aH} {Q : Option aV → aH → Prop} (hO0 : OK h0)  (hQ : ∀ r h', (∃ x : Int32, r = some (.inl x) ∧ (x.toInt = fO h0 52 2 ∧ fO h' 52 2 = 0)) → OK h' → un [6202] h0 h' → Q r h') : uCall Mt (d + 1) 149 [(.inr (.inr (some 0)))] h0 kc ks Q := by
  have l_0 : ((0) : Int32).toInt = 0 := by decide
  refine uc_ink [some (.inr (.inr (some 0))), none] mt_149 (Nat.le_of_ble_eq_true rfl) rfl ?_
  obtain ⟨f2, hc1, k3⟩ := ok_52 hO0
  have t4 := fO_of (k := 2) hc1 rfl
  refine ur_ldA rfl rfl ?_
  obtain ⟨hc5, k6⟩ := ok_0 hO0
  refine ur_get rfl hc5 rfl ?_
  refine ur_get rfl hc1 rfl ?_
  refine ur_svIk [some (.inr (.inr (some 0))), some (.inl f2)] rfl rfl ?_
  refine ur_ldA rfl rfl ?_
  refine ur_get rfl hc5 rfl ?_
  refine ur_push rfl ?_
  refine ur_putV (W := [6202]) (fs' := [(.inr (.inr (some 53))), (.inr (.inr (some 54))), (.inl 0)]) rfl hO0 hc1 (Nat.le_of_ble_eq_true rfl) rfl rfl ⟨rfl, _, rfl, by omega⟩ rfl (Or.inr (by show 1000 + 100 * wid 52 (103, 3) + 2 ∈ _; rw [(wid_f (by decide))]; decide)) (fun h8 hO8 hu8 d7 hc9 => ?_)
  refine ur_ldI rfl rfl ?_
  have t10 := fO_of (k := 2) hc9 rfl
  exact ur_ret rfl rfl (hQ _ _ ⟨_, rfl, by omega⟩ hO8 hu8)

set_option maxRecDepth 20000 in
set_option maxHeartbeats 4000000 in
theorem sd_X8_hasRoomFor {d kc ks : Nat} {h0 : aH} {Q : Option aV → aH → Prop} (hO0 : OK h0) (a1 : Int32) (b1 : 1 ≤ a1.toInt ∧ a1.toInt ≤ 4) (hQ : ∀ r, (∃ q, r = some (.inl (bi q)) ∧ (q = true → fO h0 5 1 + a1.toInt ≤ 120) ∧ (q = false → 120 < fO h0 5 1 + a1.toInt)) → Q r h0) : uCall Mt (d + 1) 92 [(.inr (.inr (some 5))), (.inl a1)] h0 kc ks Q := by
  have l_0 : ((0) : Int32).toInt = 0 := by decide
  have l_1 : ((1) : Int32).toInt = 1 := by decide
  have l_120 : ((120) : Int32).toInt = 120 := by decide
  refine uc_ink [some (.inr (.inr (some 5))), some (.inl a1)] mt_92 (Nat.le_of_ble_eq_true rfl) rfl ?_
  obtain ⟨f2, f3, f4, f5, hc1, k6⟩ := ok_5 hO0
  have t7 := fO_of (k := 1) hc1 rfl
  refine ur_ldA rfl rfl ?_
  refine ur_get rfl hc1 rfl ?_
  refine ur_ldI rfl rfl ?_
  refine ur_binV rfl (fun x8 e9 => ?_)
  have z10 := any_r f2
  have z11 := any_r a1
  have t12 := ti_add e9 (by omega) (by omega)
  refine ur_push rfl ?_
  refine ur_if2 rfl (fun c13 => ?_) (fun c13 => ?_)
  · have t14 := lt_to c13
    refine ur_push rfl ?_
    exact ur_ret rfl rfl (hQ _ ⟨false, rfl, fun e => absurd e (by decide), fun _ => by omega⟩ )
  · have t15 := lt_no c13
    refine ur_push rfl ?_
    refine ur_go rfl ?_
    exact ur_ret rfl rfl (hQ _ ⟨true, rfl, fun _ => by omega, fun e => absurd e (by decide)⟩ )

set_option maxRecDepth 20000 in
set_option maxHeartbeats 4000000 in
theorem sd_X12_observed {d kc ks : Nat} {h0 : aH} {Q : Option aV → aH → Prop} (hO0 : OK h0) (a1 : Int32) (a2 : Int32) (hQ : ∀ r h', (∃ x : Int32, r = some (.inl x) ∧ (¬ ((0 ≤ a1.toInt ∧ a1.toInt ≤ 999999) ∧ (0 ≤ a2.toInt ∧ a2.toInt ≤ 359)) ∧ x.toInt = -1 ∧ fI h' 57 = fI h0 57 ∨ ((0 ≤ a1.toInt ∧ a1.toInt ≤ 999999) ∧ (0 ≤ a2.toInt ∧ a2.toInt ≤ 359)) ∧ 5 ≤ fI h0 57 ∧ x.toInt = -3 ∧ fI h' 57 = fI h0 57 ∨ ((0 ≤ a1.toInt ∧ a1.toInt ≤ 999999) ∧ (0 ≤ a2.toInt ∧ a2.toInt ≤ 359)) ∧ fI h0 57 < 5 ∧ x.toInt = fI h0 57 + 1 ∧ fI h' 57 = fI h0 57 + 1)) → OK h' → un [107, 108, 7957] h0 h' → Q r h') : uCall Mt (d + 3) 267 [(.inr (.inr (some 69))), (.inl a1), (.inl a2)] h0 kc ks Q := by
  have l_m3 : ((-3) : Int32).toInt = -3 := by decide
  have l_m1 : ((-1) : Int32).toInt = -1 := by decide
  have l_0 : ((0) : Int32).toInt = 0 := by decide
  have l_1 : ((1) : Int32).toInt = 1 := by decide
  have l_5 : ((5) : Int32).toInt = 5 := by decide
  have l_359 : ((359) : Int32).toInt = 359 := by decide
  have l_999999 : ((999999) : Int32).toInt = 999999 := by decide
  refine uc_ink [some (.inr (.inr (some 69))), some (.inl a1), some (.inl a2)] mt_267 (Nat.le_of_ble_eq_true rfl) rfl ?_
  obtain ⟨fs1, hc2⟩ := hO0.mod
  obtain ⟨f3, p4, t5⟩ := mf_57 hO0 hc2
  have t6 := fI_of hc2 p4
  refine ur_ldI rfl rfl ?_
  refine ur_callv rfl rfl (Nat.le_of_ble_eq_true rfl) (Nat.le_of_ble_eq_true rfl) rfl (sq_isDay _ _) ?_
  refine ur_eqB rfl (fun c9 => ?_) (fun c9 => ?_)
  · have t10 := wi_noL c9 l_0 l_999999
    refine ur_push rfl ?_
    exact ur_ret rfl rfl (hQ _ _ ⟨_, rfl, Or.inl ⟨by omega, by omega, by omega⟩⟩ hO0 un.rf)
  · have t11 := wi_toL c9 l_0 l_999999
    refine ur_ldI rfl rfl ?_
    refine ur_push rfl ?_
    refine ur_push rfl ?_
    refine ur_callv rfl rfl (Nat.le_of_ble_eq_true rfl) (Nat.le_of_ble_eq_true rfl) rfl (sp_in _ _ _ _ _) ?_
    refine ur_neB rfl (fun c14 => ?_) (fun c14 => ?_)
    · have t15 := wi_toL c14 l_0 l_359
      refine ur_ldA rfl rfl ?_
      refine ur_get rfl hc2 p4 ?_
      refine ur_push rfl ?_
      refine ur_if2 rfl (fun c16 => ?_) (fun c16 => ?_)
      · have t17 := ne_to c16
        refine ur_ldA rfl rfl ?_
        refine ur_get rfl hc2 (mf_58 hO0 hc2) ?_
        refine ur_ldA rfl rfl ?_
        refine ur_get rfl hc2 p4 ?_
        refine ur_ldI rfl rfl ?_
        obtain ⟨xs19, hc18, hn20, he21⟩ := hO0.int (hO0.fix 107 (by decide) rfl)
        refine ur_astV (W := [107, 108, 7957]) (m := 5) rfl hO0 hc18 (by decide) hn20 (by omega) (any_r _) (Or.inr (Or.inr (wid_fix (by decide) (by decide)))) (fun h24 hO24 hu24 d22 hc23 => ?_)
        refine ur_ldA rfl rfl ?_
        refine ur_get rfl ((d22 _ (by decide)).trans hc2) (mf_59 hO24 ((d22 _ (by decide)).trans hc2)) ?_
        refine ur_ldA rfl rfl ?_
        have t25 := fI_of ((d22 _ (by decide)).trans hc2) p4
        refine ur_get rfl ((d22 _ (by decide)).trans hc2) p4 ?_
        refine ur_ldI rfl rfl ?_
        obtain ⟨xs27, hc26, hn28, he29⟩ := hO24.int (hO24.fix 108 (by decide) rfl)
        refine ur_astV (W := [107, 108, 7957]) (m := 5) rfl hO24 hc26 (by decide) hn28 (by omega) (any_r _) (Or.inr (Or.inr (wid_fix (by decide) (by decide)))) (fun h32 hO32 hu32 d30 hc31 => ?_)
        refine ur_ldA rfl rfl ?_
        refine ur_dup rfl rfl ?_
        have t33 := fI_of ((d30 _ (by decide)).trans ((d22 _ (by decide)).trans hc2)) p4
        refine ur_get rfl ((d30 _ (by decide)).trans ((d22 _ (by decide)).trans hc2)) p4 ?_
        refine ur_push rfl ?_
        refine ur_binV rfl (fun x34 e35 => ?_)
        have z36 := any_r f3
        have t37 := ti_add e35 (by omega) (by omega)
        refine ur_putM (W := [107, 108, 7957]) rfl hO32 ((d30 _ (by decide)).trans ((d22 _ (by decide)).trans hc2)) (by decide) rfl (ms_57 (hO32.msh ((d30 _ (by decide)).trans ((d22 _ (by decide)).trans hc2))) (show 0 ≤ x34.toInt ∧ x34.toInt ≤ 5 by omega)) (Or.inr (by decide)) (fun h39 hO39 hu39 d38 hc40 => ?_)
        have t41 := fI_of hc40 (gs_eq p4)
        refine ur_ldA rfl rfl ?_
        refine ur_get rfl hc40 (gs_eq p4) ?_
        exact ur_ret rfl rfl (hQ _ _ ⟨_, rfl, Or.inr (Or.inr ⟨by omega, by omega, by omega, by omega⟩)⟩ hO39 (hu24.tr (hu32.tr hu39)))
      · have t42 := ne_no c16
        refine ur_push rfl ?_
        exact ur_ret rfl rfl (hQ _ _ ⟨_, rfl, Or.inr (Or.inl ⟨by omega, by omega, by omega, by omega⟩)⟩ hO0 un.rf)
    · have t43 := wi_noL c14 l_0 l_359
      refine ur_push rfl ?_
      exact ur_ret rfl rfl (hQ _ _ ⟨_, rfl, Or.inl ⟨by omega, by omega, by omega⟩⟩ hO0 un.rf)

set_option maxRecDepth 20000 in
set_option maxHeartbeats 4000000 in
theorem sd_X12_forget {d kc ks : Nat} {h0 : aH} {Q : Option aV → aH → Prop} (hO0 : OK h0)  (hQ : ∀ r h', (∃ x : Int32, r = some (.inl x) ∧ (x.toInt = fI h0 57 ∧ fI h' 57 = 0)) → OK h' → un [7957] h0 h' → Q r h') : uCall Mt (d + 1) 268 [(.inr (.inr (some 69)))] h0 kc ks Q := by
  have l_0 : ((0) : Int32).toInt = 0 := by decide
  refine uc_ink [some (.inr (.inr (some 69))), none] mt_268 (Nat.le_of_ble_eq_true rfl) rfl ?_
  obtain ⟨fs1, hc2⟩ := hO0.mod
  obtain ⟨f3, p4, t5⟩ := mf_57 hO0 hc2
  have t6 := fI_of hc2 p4
  refine ur_ldA rfl rfl ?_
  refine ur_get rfl hc2 p4 ?_
  refine ur_svIk [some (.inr (.inr (some 69))), some (.inl f3)] rfl rfl ?_
  refine ur_ldA rfl rfl ?_
  refine ur_push rfl ?_
  refine ur_putM (W := [7957]) rfl hO0 hc2 (by decide) rfl (ms_57 (hO0.msh hc2) (show 0 ≤ (0 : Int32).toInt ∧ (0 : Int32).toInt ≤ 5 by omega)) (Or.inr (by decide)) (fun h8 hO8 hu8 d7 hc9 => ?_)
  have t10 := fI_of hc9 (gs_eq p4)
  refine ur_ldI rfl rfl ?_
  exact ur_ret rfl rfl (hQ _ _ ⟨_, rfl, by omega⟩ hO8 hu8)

end CTR
