/-! THE COUNTERS behind each call, printed by program -/
section CTR
theorem ti_subw {x y z : Int32} (e : x - y = z) : z.toInt = x.toInt - y.toInt ∨ z.toInt = x.toInt - y.toInt - 4294967296 ∨ z.toInt = x.toInt - y.toInt + 4294967296 := by
  have h1 := Int32.le_toInt x
  have h2 := Int32.toInt_lt x
  have h3 := Int32.le_toInt y
  have h4 := Int32.toInt_lt y
  rw [← e, Int32.toInt_sub]
  unfold Int.bmod
  simp only []
  split <;> omega
theorem fO_keep {W : List Nat} {h h' : aH} {a k ci n : Nat} (hO : OK h) (hO' : OK h') (g : un W h h') (ha : a < 114) (ht : T0.getD a (999, 0) = (100 + ci, n)) (hc : ci < 13) (h1 : scr ci k = false) (h2 : 1000 + 100 * a + k ∉ W) : fO h' a k = fO h a k := by
  obtain ⟨fs, c1, e1, -⟩ := hO.obj (hO.fix a ha ht) hc
  obtain ⟨gs, c2, e2, -⟩ := hO'.obj (hO'.fix a ha ht) hc
  have e := g.fe c1 c2 k (wid_f ha) h1 h2
  unfold fO
  rw [c1, c2]
  show (match gs[k]? with
    | some (Sum.inl x) => x.toInt
    | _ => 0) = (match fs[k]? with
    | some (Sum.inl x) => x.toInt
    | _ => 0)
  rw [e]
set_option maxRecDepth 20000 in
set_option maxHeartbeats 4000000 in
theorem sd_X3_addEvening {d kc ks : Nat} {h0 : aH} {Q : Option aV → aH → Prop} (hO0 : OK h0) (a1 : Int32) (a2 : Int32) (hQ : ∀ r h', (∃ x : Int32, r = some (.inl x) ∧ (5 ≤ fO h0 52 2 ∧ x.toInt = -3 ∧ fO h' 52 2 = fO h0 52 2 ∨ fO h0 52 2 < 5 ∧ x.toInt = fO h0 52 2 + 1 ∧ fO h' 52 2 = fO h0 52 2 + 1)) → OK h' → un [53, 54, 6202] h0 h' → Q r h') : uCall Mt (d + 1) 27 [(.inr (.inr (some 52))), (.inl a1), (.inl a2)] h0 kc ks Q := by
  have l_m3 : ((-3) : Int32).toInt = -3 := by decide
  have l_1 : ((1) : Int32).toInt = 1 := by decide
  have l_5 : ((5) : Int32).toInt = 5 := by decide
  refine uc_ink [some (.inr (.inr (some 52))), some (.inl a1), some (.inl a2)] mt_27 (Nat.le_of_ble_eq_true rfl) rfl ?_
  obtain ⟨f2, hc1, k3⟩ := ok_52 hO0
  have t4 := fO_of (k := 2) hc1 rfl
  refine ur_ldA rfl rfl ?_
  refine ur_get rfl hc1 rfl ?_
  refine ur_push rfl ?_
  refine ur_if2 rfl (fun c5 => ?_) (fun c5 => ?_)
  · have t6 := lt_to c5
    refine ur_ldA rfl rfl ?_
    refine ur_get rfl hc1 rfl ?_
    refine ur_ldA rfl rfl ?_
    refine ur_get rfl hc1 rfl ?_
    refine ur_ldI rfl rfl ?_
    obtain ⟨xs8, hc7, hn9, he10⟩ := hO0.int (hO0.fix 53 (by decide) rfl)
    refine ur_astV (W := [53, 54, 6202]) (m := 5) rfl hO0 hc7 (by decide) hn9 (by omega) (any_r _) (Or.inr (Or.inr (wid_fix (by decide) (by decide)))) (fun h13 hO13 hu13 d11 hc12 => ?_)
    refine ur_ldA rfl rfl ?_
    refine ur_get rfl ((d11 _ (by decide)).trans hc1) rfl ?_
    have t14 := fO_of (k := 2) ((d11 _ (by decide)).trans hc1) rfl
    refine ur_ldA rfl rfl ?_
    refine ur_get rfl ((d11 _ (by decide)).trans hc1) rfl ?_
    refine ur_ldI rfl rfl ?_
    obtain ⟨xs16, hc15, hn17, he18⟩ := hO13.int (hO13.fix 54 (by decide) rfl)
    refine ur_astV (W := [53, 54, 6202]) (m := 5) rfl hO13 hc15 (by decide) hn17 (by omega) (any_r _) (Or.inr (Or.inr (wid_fix (by decide) (by decide)))) (fun h21 hO21 hu21 d19 hc20 => ?_)
    refine ur_ldA rfl rfl ?_
    refine ur_dup rfl rfl ?_
    refine ur_get rfl ((d19 _ (by decide)).trans ((d11 _ (by decide)).trans hc1)) rfl ?_
    have t22 := fO_of (k := 2) ((d19 _ (by decide)).trans ((d11 _ (by decide)).trans hc1)) rfl
    refine ur_push rfl ?_
    refine ur_binV rfl (fun x23 e24 => ?_)
    have z25 := any_r f2
    have t26 := ti_add e24 (by omega) (by omega)
    refine ur_putV (W := [53, 54, 6202]) (fs' := [(.inr (.inr (some 53))), (.inr (.inr (some 54))), (.inl x23)]) rfl hO21 ((d19 _ (by decide)).trans ((d11 _ (by decide)).trans hc1)) (Nat.le_of_ble_eq_true rfl) rfl rfl ⟨rfl, _, rfl, by omega⟩ rfl (Or.inr (by show 1000 + 100 * wid 52 (103, 3) + 2 ∈ _; rw [(wid_f (by decide))]; decide)) (fun h28 hO28 hu28 d27 hc29 => ?_)
    refine ur_ldA rfl rfl ?_
    refine ur_get rfl hc29 rfl ?_
    have t30 := fO_of (k := 2) hc29 rfl
    exact ur_ret rfl rfl (hQ _ _ ⟨_, rfl, Or.inr ⟨by omega, by omega, by omega⟩⟩ hO28 (hu13.tr (hu21.tr hu28)))
  · have t31 := lt_no c5
    refine ur_push rfl ?_
    exact ur_ret rfl rfl (hQ _ _ ⟨_, rfl, Or.inl ⟨by omega, by omega, by omega⟩⟩ hO0 un.rf)

set_option maxRecDepth 20000 in
set_option maxHeartbeats 4000000 in
theorem sd_X11_observed {d kc ks : Nat} {h0 : aH} {Q : Option aV → aH → Prop} (hO0 : OK h0) (a1 : Int32) (a2 : Int32) (hQ : ∀ r h', (∃ x : Int32, r = some (.inl x) ∧ (¬ ((0 ≤ a1.toInt ∧ a1.toInt ≤ 999999) ∧ (0 ≤ a2.toInt ∧ a2.toInt ≤ 359)) ∧ x.toInt = -1 ∧ fO h' 52 2 = fO h0 52 2 ∨ ((0 ≤ a1.toInt ∧ a1.toInt ≤ 999999) ∧ (0 ≤ a2.toInt ∧ a2.toInt ≤ 359)) ∧ 5 ≤ fO h0 52 2 ∧ x.toInt = -3 ∧ fO h' 52 2 = fO h0 52 2 ∨ ((0 ≤ a1.toInt ∧ a1.toInt ≤ 999999) ∧ (0 ≤ a2.toInt ∧ a2.toInt ≤ 359)) ∧ fO h0 52 2 < 5 ∧ x.toInt = fO h0 52 2 + 1 ∧ fO h' 52 2 = fO h0 52 2 + 1)) → OK h' → un [53, 54, 6202] h0 h' → Q r h') : uCall Mt (d + 3) 147 [(.inr (.inr (some 0))), (.inl a1), (.inl a2)] h0 kc ks Q := by
  have l_m3 : ((-3) : Int32).toInt = -3 := by decide
  have l_m1 : ((-1) : Int32).toInt = -1 := by decide
  have l_0 : ((0) : Int32).toInt = 0 := by decide
  have l_5 : ((5) : Int32).toInt = 5 := by decide
  have l_359 : ((359) : Int32).toInt = 359 := by decide
  have l_999999 : ((999999) : Int32).toInt = 999999 := by decide
  refine uc_ink [some (.inr (.inr (some 0))), some (.inl a1), some (.inl a2)] mt_147 (Nat.le_of_ble_eq_true rfl) rfl ?_
  obtain ⟨f2, hc1, k3⟩ := ok_52 hO0
  have t4 := fO_of (k := 2) hc1 rfl
  refine ur_ldI rfl rfl ?_
  refine ur_callv rfl rfl (Nat.le_of_ble_eq_true rfl) (Nat.le_of_ble_eq_true rfl) rfl (sp_isDay _ _) ?_
  refine ur_eqB rfl (fun c7 => ?_) (fun c7 => ?_)
  · have t8 := wi_noL c7 l_0 l_999999
    refine ur_push rfl ?_
    exact ur_ret rfl rfl (hQ _ _ ⟨_, rfl, Or.inl ⟨by omega, by omega, by omega⟩⟩ hO0 un.rf)
  · have t9 := wi_toL c7 l_0 l_999999
    refine ur_ldI rfl rfl ?_
    refine ur_push rfl ?_
    refine ur_push rfl ?_
    refine ur_callv rfl rfl (Nat.le_of_ble_eq_true rfl) (Nat.le_of_ble_eq_true rfl) rfl (sp_within _ _ _ _ _) ?_
    refine ur_neB rfl (fun c12 => ?_) (fun c12 => ?_)
    · have t13 := wi_toL c12 l_0 l_359
      refine ur_ldA rfl rfl ?_
      obtain ⟨hc14, k15⟩ := ok_0 hO0
      refine ur_get rfl hc14 rfl ?_
      refine ur_get rfl hc1 rfl ?_
      refine ur_push rfl ?_
      refine ur_if2 rfl (fun c16 => ?_) (fun c16 => ?_)
      · have t17 := lt_to c16
        refine ur_ldA rfl rfl ?_
        refine ur_get rfl hc14 rfl ?_
        refine ur_ldI rfl rfl ?_
        refine ur_ldI rfl rfl ?_
        refine ur_inl rfl (rcv_of hc1) (Nat.le_of_ble_eq_true rfl) (Nat.le_of_ble_eq_true rfl) (sd_X3_addEvening hO0 _ _ (fun w18 h20 hr19 hO20 hv20 => ?_))
        have hu20 := hv20
        obtain ⟨x21, rfl, t22⟩ := hr19
        show uRun _ (uCall Mt _) _ 43 (_, [(.inl x21)], _, _, _)
        obtain ⟨f24, hc23, k25⟩ := ok_52 hO20
        have t26 := fO_of (k := 2) hc23 rfl
        exact ur_ret rfl rfl (hQ _ _ ⟨_, rfl, Or.inr (Or.inr ⟨by omega, by omega, by omega, by omega⟩)⟩ hO20 hu20)
      · have t27 := lt_no c16
        refine ur_push rfl ?_
        exact ur_ret rfl rfl (hQ _ _ ⟨_, rfl, Or.inr (Or.inl ⟨by omega, by omega, by omega, by omega⟩)⟩ hO0 un.rf)
    · have t28 := wi_noL c12 l_0 l_359
      refine ur_push rfl ?_
      exact ur_ret rfl rfl (hQ _ _ ⟨_, rfl, Or.inl ⟨by omega, by omega, by omega⟩⟩ hO0 un.rf)

set_option maxRecDepth 20000 in
set_option maxHeartbeats 4000000 in
theorem sd_X11_forget {d kc ks : Nat} {h0 : aH} {Q : Option aV → aH → Prop} (hO0 : OK h0)  (hQ : ∀ r h', (∃ x : Int32, r = some (.inl x) ∧ (x.toInt = fO h0 52 2 ∧ fO h' 52 2 = 0)) → OK h' → un [6202] h0 h' → Q r h') : uCall Mt (d + 1) 149 [(.inr (.inr (some 0)))] h0 kc ks Q := by
  have l_0 : ((0) : Int32).toInt = 0 := by decide
  refine uc_ink [some (.inr (.inr (some 0))), none] mt_149 (Nat.le_of_ble_eq_true rfl) rfl ?_
  obtain ⟨f2, hc1, k3⟩ := ok_52 hO0
  have t4 := fO_of (k := 2) hc1 rfl
  refine ur_ldA rfl rfl ?_
  obtain ⟨hc5, k6⟩ := ok_0 hO0
  refine ur_get rfl hc5 rfl ?_
  refine ur_get rfl hc1 rfl ?_
  refine ur_svIk [some (.inr (.inr (some 0))), some (.inl f2)] rfl rfl ?_
  refine ur_ldA rfl rfl ?_
  refine ur_get rfl hc5 rfl ?_
  refine ur_push rfl ?_
  refine ur_putV (W := [6202]) (fs' := [(.inr (.inr (some 53))), (.inr (.inr (some 54))), (.inl 0)]) rfl hO0 hc1 (Nat.le_of_ble_eq_true rfl) rfl rfl ⟨rfl, _, rfl, by omega⟩ rfl (Or.inr (by show 1000 + 100 * wid 52 (103, 3) + 2 ∈ _; rw [(wid_f (by decide))]; decide)) (fun h8 hO8 hu8 d7 hc9 => ?_)
  refine ur_ldI rfl rfl ?_
  have t10 := fO_of (k := 2) hc9 rfl
  exact ur_ret rfl rfl (hQ _ _ ⟨_, rfl, by omega⟩ hO8 hu8)

set_option maxRecDepth 20000 in
set_option maxHeartbeats 4000000 in
theorem sd_X7_addWatch {d kc ks : Nat} {h0 : aH} {Q : Option aV → aH → Prop} (hO0 : OK h0) (a1 : Int32) (b1 : 0 ≤ a1.toInt ∧ a1.toInt ≤ 8) (a2 : Int32) (b2 : 0 ≤ a2.toInt ∧ a2.toInt ≤ 999999) (a3 : Int32) (b3 : 0 ≤ a3.toInt ∧ a3.toInt ≤ 999999) (hQ : ∀ r h', (∃ x : Int32, r = some (.inl x) ∧ (10 ≤ fO h0 41 6 ∧ x.toInt = -3 ∧ fO h' 41 6 = fO h0 41 6 ∨ fO h0 41 6 < 10 ∧ x.toInt = fO h0 41 6 + 1 ∧ fO h' 41 6 = fO h0 41 6 + 1)) → OK h' → un [42, 43, 44, 5106] h0 h' → Q r h') : uCall Mt (d + 1) 72 [(.inr (.inr (some 41))), (.inl a1), (.inl a2), (.inl a3)] h0 kc ks Q := by
  have l_m3 : ((-3) : Int32).toInt = -3 := by decide
  have l_1 : ((1) : Int32).toInt = 1 := by decide
  have l_10 : ((10) : Int32).toInt = 10 := by decide
  refine uc_ink [some (.inr (.inr (some 41))), some (.inl a1), some (.inl a2), some (.inl a3)] mt_72 (Nat.le_of_ble_eq_true rfl) rfl ?_
  obtain ⟨f2, f3, hc1, k4⟩ := ok_41 hO0
  have t5 := fO_of (k := 6) hc1 rfl
  refine ur_ldA rfl rfl ?_
  refine ur_get rfl hc1 rfl ?_
  refine ur_push rfl ?_
  refine ur_if2 rfl (fun c6 => ?_) (fun c6 => ?_)
  · have t7 := lt_to c6
    refine ur_ldA rfl rfl ?_
    refine ur_get rfl hc1 rfl ?_
    refine ur_ldA rfl rfl ?_
    refine ur_get rfl hc1 rfl ?_
    refine ur_ldI rfl rfl ?_
    obtain ⟨xs9, hc8, hn10, he11⟩ := hO0.int (hO0.fix 42 (by decide) rfl)
    refine ur_astV (W := [42, 43, 44, 5106]) (m := 10) rfl hO0 hc8 (by decide) hn10 (by omega) (by show 0 ≤ a1.toInt ∧ a1.toInt ≤ 8; omega) (Or.inr (Or.inr (wid_fix (by decide) (by decide)))) (fun h14 hO14 hu14 d12 hc13 => ?_)
    refine ur_ldA rfl rfl ?_
    refine ur_get rfl ((d12 _ (by decide)).trans hc1) rfl ?_
    have t15 := fO_of (k := 6) ((d12 _ (by decide)).trans hc1) rfl
    refine ur_ldA rfl rfl ?_
    refine ur_get rfl ((d12 _ (by decide)).trans hc1) rfl ?_
    refine ur_ldI rfl rfl ?_
    obtain ⟨xs17, hc16, hn18, he19⟩ := hO14.int (hO14.fix 43 (by decide) rfl)
    refine ur_astV (W := [42, 43, 44, 5106]) (m := 10) rfl hO14 hc16 (by decide) hn18 (by omega) (by show 0 ≤ a2.toInt ∧ a2.toInt ≤ 999999; omega) (Or.inr (Or.inr (wid_fix (by decide) (by decide)))) (fun h22 hO22 hu22 d20 hc21 => ?_)
    refine ur_ldA rfl rfl ?_
    refine ur_get rfl ((d20 _ (by decide)).trans ((d12 _ (by decide)).trans hc1)) rfl ?_
    have t23 := fO_of (k := 6) ((d20 _ (by decide)).trans ((d12 _ (by decide)).trans hc1)) rfl
    refine ur_ldA rfl rfl ?_
    refine ur_get rfl ((d20 _ (by decide)).trans ((d12 _ (by decide)).trans hc1)) rfl ?_
    refine ur_ldI rfl rfl ?_
    obtain ⟨xs25, hc24, hn26, he27⟩ := hO22.int (hO22.fix 44 (by decide) rfl)
    refine ur_astV (W := [42, 43, 44, 5106]) (m := 10) rfl hO22 hc24 (by decide) hn26 (by omega) (by show 0 ≤ a3.toInt ∧ a3.toInt ≤ 999999; omega) (Or.inr (Or.inr (wid_fix (by decide) (by decide)))) (fun h30 hO30 hu30 d28 hc29 => ?_)
    refine ur_ldA rfl rfl ?_
    refine ur_dup rfl rfl ?_
    refine ur_get rfl ((d28 _ (by decide)).trans ((d20 _ (by decide)).trans ((d12 _ (by decide)).trans hc1))) rfl ?_
    have t31 := fO_of (k := 6) ((d28 _ (by decide)).trans ((d20 _ (by decide)).trans ((d12 _ (by decide)).trans hc1))) rfl
    refine ur_push rfl ?_
    refine ur_binV rfl (fun x32 e33 => ?_)
    have z34 := any_r f2
    have t35 := ti_add e33 (by omega) (by omega)
    refine ur_putV (W := [42, 43, 44, 5106]) (fs' := [(.inr (.inr (some 1))), (.inr (.inr (some 15))), (.inr (.inr (some 8))), (.inr (.inr (some 42))), (.inr (.inr (some 43))), (.inr (.inr (some 44))), (.inl x32), (.inr (.inr (some 45))), (.inr (.inr (some 46))), (.inr (.inr (some 47))), (.inr (.inr (some 48))), (.inr (.inr (some 49))), (.inr (.inr (some 50))), (.inr (.inr (some 51))), (.inl f3)]) rfl hO30 ((d28 _ (by decide)).trans ((d20 _ (by decide)).trans ((d12 _ (by decide)).trans hc1))) (Nat.le_of_ble_eq_true rfl) rfl rfl ⟨rfl, _, _, rfl, by omega⟩ rfl (Or.inr (by show 1000 + 100 * wid 41 (107, 15) + 6 ∈ _; rw [(wid_f (by decide))]; decide)) (fun h37 hO37 hu37 d36 hc38 => ?_)
    refine ur_ldA rfl rfl ?_
    refine ur_get rfl hc38 rfl ?_
    have t39 := fO_of (k := 6) hc38 rfl
    exact ur_ret rfl rfl (hQ _ _ ⟨_, rfl, Or.inr ⟨by omega, by omega, by omega⟩⟩ hO37 (hu14.tr (hu22.tr (hu30.tr hu37))))
  · have t40 := lt_no c6
    refine ur_push rfl ?_
    exact ur_ret rfl rfl (hQ _ _ ⟨_, rfl, Or.inl ⟨by omega, by omega, by omega⟩⟩ hO0 un.rf)

set_option maxRecDepth 20000 in
set_option maxHeartbeats 4000000 in
theorem sd_X11_watch {d kc ks : Nat} {h0 : aH} {Q : Option aV → aH → Prop} (hO0 : OK h0) (a1 : Int32) (a2 : Int32) (a3 : Int32) (hQ : ∀ r h', (∃ x : Int32, r = some (.inl x) ∧ (¬ ((0 ≤ a1.toInt ∧ a1.toInt ≤ 8) ∧ (0 ≤ a2.toInt ∧ a2.toInt ≤ 999999) ∧ (0 ≤ a3.toInt ∧ a3.toInt ≤ 999999) ∧ a2.toInt ≤ a3.toInt) ∧ x.toInt = -1 ∧ fO h' 41 6 = fO h0 41 6 ∨ ((0 ≤ a1.toInt ∧ a1.toInt ≤ 8) ∧ (0 ≤ a2.toInt ∧ a2.toInt ≤ 999999) ∧ (0 ≤ a3.toInt ∧ a3.toInt ≤ 999999) ∧ a2.toInt ≤ a3.toInt) ∧ 10 ≤ fO h0 41 6 ∧ x.toInt = -3 ∧ fO h' 41 6 = fO h0 41 6 ∨ ((0 ≤ a1.toInt ∧ a1.toInt ≤ 8) ∧ (0 ≤ a2.toInt ∧ a2.toInt ≤ 999999) ∧ (0 ≤ a3.toInt ∧ a3.toInt ≤ 999999) ∧ a2.toInt ≤ a3.toInt) ∧ fO h0 41 6 < 10 ∧ x.toInt = fO h0 41 6 + 1 ∧ fO h' 41 6 = fO h0 41 6 + 1)) → OK h' → un [42, 43, 44, 45, 46, 5106] h0 h' → Q r h') : uCall Mt (d + 3) 133 [(.inr (.inr (some 0))), (.inl a1), (.inl a2), (.inl a3)] h0 kc ks Q := by
  have l_m3 : ((-3) : Int32).toInt = -3 := by decide
  have l_m1 : ((-1) : Int32).toInt = -1 := by decide
  have l_0 : ((0) : Int32).toInt = 0 := by decide
  have l_8 : ((8) : Int32).toInt = 8 := by decide
  have l_10 : ((10) : Int32).toInt = 10 := by decide
  have l_999999 : ((999999) : Int32).toInt = 999999 := by decide
  refine uc_ink [some (.inr (.inr (some 0))), some (.inl a1), some (.inl a2), some (.inl a3)] mt_133 (Nat.le_of_ble_eq_true rfl) rfl ?_
  obtain ⟨f2, f3, hc1, k4⟩ := ok_41 hO0
  have t5 := fO_of (k := 6) hc1 rfl
  refine ur_ldI rfl rfl ?_
  refine ur_callv rfl rfl (Nat.le_of_ble_eq_true rfl) (Nat.le_of_ble_eq_true rfl) rfl (sp_isPpl _ _) ?_
  refine ur_eqB rfl (fun c8 => ?_) (fun c8 => ?_)
  · have t9 := wi_noL c8 l_0 l_8
    refine ur_push rfl ?_
    exact ur_ret rfl rfl (hQ _ _ ⟨_, rfl, Or.inl ⟨by omega, by omega, by omega⟩⟩ hO0 un.rf)
  · have t10 := wi_toL c8 l_0 l_8
    refine ur_ldI rfl rfl ?_
    refine ur_callv rfl rfl (Nat.le_of_ble_eq_true rfl) (Nat.le_of_ble_eq_true rfl) rfl (sp_isDay _ _) ?_
    refine ur_eqB rfl (fun c13 => ?_) (fun c13 => ?_)
    · have t14 := wi_noL c13 l_0 l_999999
      refine ur_push rfl ?_
      exact ur_ret rfl rfl (hQ _ _ ⟨_, rfl, Or.inl ⟨by omega, by omega, by omega⟩⟩ hO0 un.rf)
    · have t15 := wi_toL c13 l_0 l_999999
      refine ur_ldI rfl rfl ?_
      refine ur_callv rfl rfl (Nat.le_of_ble_eq_true rfl) (Nat.le_of_ble_eq_true rfl) rfl (sp_isDay _ _) ?_
      refine ur_eqB rfl (fun c18 => ?_) (fun c18 => ?_)
      · have t19 := wi_noL c18 l_0 l_999999
        refine ur_push rfl ?_
        exact ur_ret rfl rfl (hQ _ _ ⟨_, rfl, Or.inl ⟨by omega, by omega, by omega⟩⟩ hO0 un.rf)
      · have t20 := wi_toL c18 l_0 l_999999
        refine ur_ldI rfl rfl ?_
        refine ur_ldI rfl rfl ?_
        have z21 := any_r a2
        have z22 := any_r a3
        refine ur_if2 rfl (fun c23 => ?_) (fun c23 => ?_)
        · have t24 := le_to c23
          refine ur_ldA rfl rfl ?_
          obtain ⟨hc25, k26⟩ := ok_0 hO0
          refine ur_get rfl hc25 rfl ?_
          refine ur_get rfl hc1 rfl ?_
          refine ur_push rfl ?_
          refine ur_if2 rfl (fun c27 => ?_) (fun c27 => ?_)
          · have t28 := lt_to c27
            refine ur_ldA rfl rfl ?_
            refine ur_get rfl hc25 rfl ?_
            refine ur_inl rfl (rcv_of hc1) (Nat.le_of_ble_eq_true rfl) (Nat.le_of_ble_eq_true rfl) (sf_X7_forgetWeights hO0  (fun w29 h31 hr30 hO31 hv31 => ?_))
            have hu31 : un [42, 43, 44, 45, 46, 5106] h0 h31 := hv31.mono (by decide)
            subst hr30
            show uRun _ (uCall Mt _) _ 50 (_, [], _, _, _)
            refine ur_ldA rfl rfl ?_
            refine ur_get rfl (hv31.ko (n := 8) hc25 rfl (wid_f (by decide)) (by decide)) rfl ?_
            refine ur_ldI rfl rfl ?_
            refine ur_ldI rfl rfl ?_
            refine ur_ldI rfl rfl ?_
            obtain ⟨f33, f34, hc32, k35⟩ := ok_41 hO31
            have t36 := fO_of (k := 6) hc32 rfl
            have t37 := fO_keep (a := 41) (ci := 7) (n := 15) (k := 6) hO0 hO31 hv31 (by decide) rfl (by decide) rfl (by decide)
            refine ur_inl rfl (rcv_of hc32) (Nat.le_of_ble_eq_true rfl) (Nat.le_of_ble_eq_true rfl) (sd_X7_addWatch hO31 _ (by show 0 ≤ a1.toInt ∧ a1.toInt ≤ 8; omega) _ (by show 0 ≤ a2.toInt ∧ a2.toInt ≤ 999999; omega) _ (by show 0 ≤ a3.toInt ∧ a3.toInt ≤ 999999; omega) (fun w38 h40 hr39 hO40 hv40 => ?_))
            have hu40 : un [42, 43, 44, 45, 46, 5106] h31 h40 := hv40.mono (by decide)
            obtain ⟨x41, rfl, t42⟩ := hr39
            show uRun _ (uCall Mt _) _ 60 (_, [(.inl x41)], _, _, _)
            obtain ⟨f44, f45, hc43, k46⟩ := ok_41 hO40
            have t47 := fO_of (k := 6) hc43 rfl
            exact ur_ret rfl rfl (hQ _ _ ⟨_, rfl, Or.inr (Or.inr ⟨by omega, by omega, by omega, by omega⟩)⟩ hO40 (hu31.tr hu40))
          · have t48 := lt_no c27
            refine ur_push rfl ?_
            exact ur_ret rfl rfl (hQ _ _ ⟨_, rfl, Or.inr (Or.inl ⟨by omega, by omega, by omega, by omega⟩)⟩ hO0 un.rf)
        · have t49 := le_no c23
          refine ur_push rfl ?_
          exact ur_ret rfl rfl (hQ _ _ ⟨_, rfl, Or.inl ⟨by omega, by omega, by omega⟩⟩ hO0 un.rf)

set_option maxRecDepth 20000 in
set_option maxHeartbeats 4000000 in
theorem sd_X6_addGreat {d kc ks : Nat} {h0 : aH} {Q : Option aV → aH → Prop} (hO0 : OK h0) (a1 : Int32) (a2 : Int32) (b2 : 0 ≤ a2.toInt ∧ a2.toInt ≤ 60) (hQ : ∀ r h', (∃ x : Int32, r = some (.inl x) ∧ (4 ≤ fO h0 1 2 ∧ x.toInt = -3 ∧ fO h' 1 2 = fO h0 1 2 ∨ fO h0 1 2 < 4 ∧ x.toInt = fO h0 1 2 + 0 ∧ fO h' 1 2 = fO h0 1 2 + 1)) → OK h' → un [2, 3, 221, 1102, 21208, 21209] h0 h' → Q r h') : uCall Mt (d + 5) 58 [(.inr (.inr (some 1))), (.inl a1), (.inl a2)] h0 kc ks Q := by
  have l_m3 : ((-3) : Int32).toInt = -3 := by decide
  have l_0 : ((0) : Int32).toInt = 0 := by decide
  have l_1 : ((1) : Int32).toInt = 1 := by decide
  have l_4 : ((4) : Int32).toInt = 4 := by decide
  refine uc_ink [some (.inr (.inr (some 1))), some (.inl a1), some (.inl a2), none] mt_58 (Nat.le_of_ble_eq_true rfl) rfl ?_
  obtain ⟨f2, f3, hc1, k4⟩ := ok_1 hO0
  have t5 := fO_of (k := 2) hc1 rfl
  refine ur_ldA rfl rfl ?_
  refine ur_get rfl hc1 rfl ?_
  refine ur_push rfl ?_
  refine ur_if2 rfl (fun c6 => ?_) (fun c6 => ?_)
  · have t7 := lt_to c6
    refine ur_ldA rfl rfl ?_
    refine ur_get rfl hc1 rfl ?_
    refine ur_ldA rfl rfl ?_
    refine ur_get rfl hc1 rfl ?_
    refine ur_ldI rfl rfl ?_
    obtain ⟨xs9, hc8, hn10, he11⟩ := hO0.int (hO0.fix 2 (by decide) rfl)
    refine ur_astV (W := [2, 3, 221, 1102, 21208, 21209]) (m := 4) rfl hO0 hc8 (by decide) hn10 (by omega) (any_r _) (Or.inr (Or.inr (wid_fix (by decide) (by decide)))) (fun h14 hO14 hu14 d12 hc13 => ?_)
    refine ur_ldA rfl rfl ?_
    refine ur_get rfl ((d12 _ (by decide)).trans hc1) rfl ?_
    have t15 := fO_of (k := 2) ((d12 _ (by decide)).trans hc1) rfl
    refine ur_ldA rfl rfl ?_
    refine ur_get rfl ((d12 _ (by decide)).trans hc1) rfl ?_
    refine ur_ldI rfl rfl ?_
    obtain ⟨xs17, hc16, hn18, he19⟩ := hO14.int (hO14.fix 3 (by decide) rfl)
    refine ur_astV (W := [2, 3, 221, 1102, 21208, 21209]) (m := 4) rfl hO14 hc16 (by decide) hn18 (by omega) (by show 0 ≤ a2.toInt ∧ a2.toInt ≤ 60; omega) (Or.inr (Or.inr (wid_fix (by decide) (by decide)))) (fun h22 hO22 hu22 d20 hc21 => ?_)
    refine ur_ldA rfl rfl ?_
    refine ur_dup rfl rfl ?_
    refine ur_get rfl ((d20 _ (by decide)).trans ((d12 _ (by decide)).trans hc1)) rfl ?_
    have t23 := fO_of (k := 2) ((d20 _ (by decide)).trans ((d12 _ (by decide)).trans hc1)) rfl
    refine ur_push rfl ?_
    refine ur_binV rfl (fun x24 e25 => ?_)
    have z26 := any_r f2
    have t27 := ti_add e25 (by omega) (by omega)
    refine ur_putV (W := [2, 3, 221, 1102, 21208, 21209]) (fs' := [(.inr (.inr (some 2))), (.inr (.inr (some 3))), (.inl x24), (.inr (.inr (some 4))), (.inl f3)]) rfl hO22 ((d20 _ (by decide)).trans ((d12 _ (by decide)).trans hc1)) (Nat.le_of_ble_eq_true rfl) rfl rfl ⟨rfl, _, _, rfl, by omega⟩ rfl (Or.inr (by show 1000 + 100 * wid 1 (106, 5) + 2 ∈ _; rw [(wid_f (by decide))]; decide)) (fun h29 hO29 hu29 d28 hc30 => ?_)
    refine ur_push rfl ?_
    refine ur_svIk [some (.inr (.inr (some 1))), some (.inl a1), some (.inl a2), some (.inl 0)] rfl rfl ?_
    have t35 := fO_of (k := 2) hc30 rfl
    have L32 : ∀ (m33 : Nat) (x31 : Int32) (h36 : aH) , OK h36 → un [2, 3, 221, 1102, 21208, 21209] h29 h36 → ((0 ≤ x31.toInt ∧ x31.toInt ≤ 2147483647) ∧ fO h36 1 2 = fO h0 1 2 + 1) → ((2147483648 - x31.toInt).toNat) < m33 → uRun oX6_addGreat (uCall Mt (d + 4)) Q 43 ([some (.inr (.inr (some 1))), some (.inl a1), some (.inl a2), some (.inl x31)], [], h36, kc, ks) := by
      intro m33
      induction m33 with
      | zero => intro x31 h36 hO36 hu36 iv37 mm38; omega
      | succ m33 ih34 =>
        intro x31 h36 hO36 hu36 iv37 mm38
        refine ur_ldI rfl rfl ?_
        refine ur_ldA rfl rfl ?_
        obtain ⟨f40, f41, hc39, k42⟩ := ok_1 hO36
        refine ur_get rfl hc39 rfl ?_
        have t43 := fO_of (k := 2) hc39 rfl
        have z44 := any_r x31
        have z45 := any_r f41
        refine ur_if2 rfl (fun c46 => ?_) (fun c46 => ?_)
        · have t47 := le_to c46
          refine ur_ldA rfl rfl ?_
          refine ur_get rfl hc39 rfl ?_
          refine ur_push rfl ?_
          refine ur_binV rfl (fun x48 e49 => ?_)
          have z50 := any_r f40
          have t51 := ti_sub e49 (by omega) (by omega)
          exact ur_ret rfl rfl (hQ _ _ ⟨_, rfl, Or.inr ⟨by omega, by omega, by omega⟩⟩ hO36 (hu14.tr (hu22.tr (hu29.tr hu36))))
        · have t52 := le_no c46
          refine ur_ldA rfl rfl ?_
          refine ur_ldA rfl rfl ?_
          refine ur_get rfl hc39 rfl ?_
          refine ur_ldI rfl rfl ?_
          obtain ⟨xs54, hc53, hn55, he56⟩ := hO36.com (hO36.fix 4 (by decide) rfl)
          refine ur_aldAV rfl hc53 hn55 (by omega) (fun o57 hx58 => ?_)
          have k59 : ∀ z, o57 = some z → 114 ≤ z ∧ tg h36 z = (102, 14) := fun z e => he56 _ z (by rw [hx58, e])
          refine ur_inl rfl (rcv_of hc39) (Nat.le_of_ble_eq_true rfl) (Nat.le_of_ble_eq_true rfl) (sf_X6_reckonReturns hO36 _ k59 (fun w60 h62 hr61 hO62 hv62 => ?_))
          have hu62 : un [2, 3, 221, 1102, 21208, 21209] h36 h62 := hv62.mono (by decide)
          subst hr61
          show uRun _ (uCall Mt _) _ 61 (_, [], _, _, _)
          refine ur_incV (fun z => [some (.inr (.inr (some 1))), some (.inl a1), some (.inl a2), some (.inl z)]) rfl rfl (fun _ => rfl) (fun x63 e64 => ?_)
          have t65 := ti_add e64 (by omega) (by omega)
          refine ur_go rfl ?_
          have t66 := fO_of (k := 2) (hv62.ko (n := 5) hc39 rfl (wid_f (by decide)) (by decide)) rfl
          have z67 := any_r x63
          exact ih34 x63 _ hO62 (hu36.tr hu62) (by omega) (by omega)
    exact L32 _ 0 _ hO29 un.rf (by omega) (Nat.lt_succ_self _)
  · have t68 := lt_no c6
    refine ur_push rfl ?_
    exact ur_ret rfl rfl (hQ _ _ ⟨_, rfl, Or.inl ⟨by omega, by omega, by omega⟩⟩ hO0 un.rf)

set_option maxRecDepth 20000 in
set_option maxHeartbeats 4000000 in
theorem sd_X11_great {d kc ks : Nat} {h0 : aH} {Q : Option aV → aH → Prop} (hO0 : OK h0) (a1 : Int32) (a2 : Int32) (hQ : ∀ r h', (∃ x : Int32, r = some (.inl x) ∧ (¬ ((100 ≤ a1.toInt ∧ a1.toInt ≤ 20000) ∧ (0 ≤ a2.toInt ∧ a2.toInt ≤ 60)) ∧ x.toInt = -1 ∧ fO h' 1 2 = fO h0 1 2 ∨ ((100 ≤ a1.toInt ∧ a1.toInt ≤ 20000) ∧ (0 ≤ a2.toInt ∧ a2.toInt ≤ 60)) ∧ 4 ≤ fO h0 1 2 ∧ x.toInt = -3 ∧ fO h' 1 2 = fO h0 1 2 ∨ ((100 ≤ a1.toInt ∧ a1.toInt ≤ 20000) ∧ (0 ≤ a2.toInt ∧ a2.toInt ≤ 60)) ∧ fO h0 1 2 < 4 ∧ x.toInt = fO h0 1 2 + 0 ∧ fO h' 1 2 = fO h0 1 2 + 1)) → OK h' → un [2, 3, 45, 46, 221, 1102, 1804, 21208, 21209] h0 h' → Q r h') : uCall Mt (d + 6) 124 [(.inr (.inr (some 0))), (.inl a1), (.inl a2)] h0 kc ks Q := by
  have l_m3 : ((-3) : Int32).toInt = -3 := by decide
  have l_m1 : ((-1) : Int32).toInt = -1 := by decide
  have l_0 : ((0) : Int32).toInt = 0 := by decide
  have l_4 : ((4) : Int32).toInt = 4 := by decide
  have l_60 : ((60) : Int32).toInt = 60 := by decide
  have l_100 : ((100) : Int32).toInt = 100 := by decide
  have l_20000 : ((20000) : Int32).toInt = 20000 := by decide
  refine uc_ink [some (.inr (.inr (some 0))), some (.inl a1), some (.inl a2)] mt_124 (Nat.le_of_ble_eq_true rfl) rfl ?_
  obtain ⟨f2, f3, hc1, k4⟩ := ok_1 hO0
  have t5 := fO_of (k := 2) hc1 rfl
  refine ur_ldI rfl rfl ?_
  refine ur_push rfl ?_
  refine ur_push rfl ?_
  refine ur_callv rfl rfl (Nat.le_of_ble_eq_true rfl) (Nat.le_of_ble_eq_true rfl) rfl (sp_within _ _ _ _ _) ?_
  refine ur_eqB rfl (fun c8 => ?_) (fun c8 => ?_)
  · have t9 := wi_noL c8 l_100 l_20000
    refine ur_push rfl ?_
    exact ur_ret rfl rfl (hQ _ _ ⟨_, rfl, Or.inl ⟨by omega, by omega, by omega⟩⟩ hO0 un.rf)
  · have t10 := wi_toL c8 l_100 l_20000
    refine ur_ldI rfl rfl ?_
    refine ur_push rfl ?_
    refine ur_push rfl ?_
    refine ur_callv rfl rfl (Nat.le_of_ble_eq_true rfl) (Nat.le_of_ble_eq_true rfl) rfl (sp_within _ _ _ _ _) ?_
    refine ur_neB rfl (fun c13 => ?_) (fun c13 => ?_)
    · have t14 := wi_toL c13 l_0 l_60
      refine ur_ldA rfl rfl ?_
      obtain ⟨hc15, k16⟩ := ok_0 hO0
      refine ur_get rfl hc15 rfl ?_
      refine ur_get rfl hc1 rfl ?_
      refine ur_push rfl ?_
      refine ur_if2 rfl (fun c17 => ?_) (fun c17 => ?_)
      · have t18 := lt_to c17
        refine ur_ldA rfl rfl ?_
        refine ur_get rfl hc15 rfl ?_
        obtain ⟨f20, hc19, k21⟩ := ok_8 hO0
        refine ur_inl rfl (rcv_of hc19) (Nat.le_of_ble_eq_true rfl) (Nat.le_of_ble_eq_true rfl) (sf_X5_forgetSights hO0  (fun w22 h24 hr23 hO24 hv24 => ?_))
        have hu24 : un [2, 3, 45, 46, 221, 1102, 1804, 21208, 21209] h0 h24 := hv24.mono (by decide)
        subst hr23
        show uRun _ (uCall Mt _) _ 45 (_, [], _, _, _)
        refine ur_ldA rfl rfl ?_
        refine ur_get rfl (hv24.ko (n := 8) hc15 rfl (wid_f (by decide)) (by decide)) rfl ?_
        obtain ⟨f26, f27, hc25, k28⟩ := ok_41 hO24
        refine ur_inl rfl (rcv_of hc25) (Nat.le_of_ble_eq_true rfl) (Nat.le_of_ble_eq_true rfl) (sf_X7_forgetWeights hO24  (fun w29 h31 hr30 hO31 hv31 => ?_))
        have hu31 : un [2, 3, 45, 46, 221, 1102, 1804, 21208, 21209] h24 h31 := hv31.mono (by decide)
        subst hr30
        show uRun _ (uCall Mt _) _ 52 (_, [], _, _, _)
        refine ur_ldA rfl rfl ?_
        refine ur_get rfl (hv31.ko (n := 8) (hv24.ko (n := 8) hc15 rfl (wid_f (by decide)) (by decide)) rfl (wid_f (by decide)) (by decide)) rfl ?_
        refine ur_ldI rfl rfl ?_
        refine ur_ldI rfl rfl ?_
        have t32 := fO_of (k := 2) (hv31.ko (n := 5) (hv24.ko (n := 5) hc1 rfl (wid_f (by decide)) (by decide)) rfl (wid_f (by decide)) (by decide)) rfl
        refine ur_inl rfl (rcv_of (hv31.ko (n := 5) (hv24.ko (n := 5) hc1 rfl (wid_f (by decide)) (by decide)) rfl (wid_f (by decide)) (by decide))) (Nat.le_of_ble_eq_true rfl) (Nat.le_of_ble_eq_true rfl) (sd_X6_addGreat hO31 _ _ (by show 0 ≤ a2.toInt ∧ a2.toInt ≤ 60; omega) (fun w33 h35 hr34 hO35 hv35 => ?_))
        have hu35 : un [2, 3, 45, 46, 221, 1102, 1804, 21208, 21209] h31 h35 := hv35.mono (by decide)
        obtain ⟨x36, rfl, t37⟩ := hr34
        show uRun _ (uCall Mt _) _ 61 (_, [(.inl x36)], _, _, _)
        obtain ⟨f39, f40, hc38, k41⟩ := ok_1 hO35
        have t42 := fO_of (k := 2) hc38 rfl
        exact ur_ret rfl rfl (hQ _ _ ⟨_, rfl, Or.inr (Or.inr ⟨by omega, by omega, by omega, by omega⟩)⟩ hO35 (hu24.tr (hu31.tr hu35)))
      · have t43 := lt_no c17
        refine ur_push rfl ?_
        exact ur_ret rfl rfl (hQ _ _ ⟨_, rfl, Or.inr (Or.inl ⟨by omega, by omega, by omega, by omega⟩)⟩ hO0 un.rf)
    · have t44 := wi_noL c13 l_0 l_60
      refine ur_push rfl ?_
      exact ur_ret rfl rfl (hQ _ _ ⟨_, rfl, Or.inl ⟨by omega, by omega, by omega⟩⟩ hO0 un.rf)

set_option maxRecDepth 20000 in
set_option maxHeartbeats 4000000 in
theorem sd_X8_hasRoomFor {d kc ks : Nat} {h0 : aH} {Q : Option aV → aH → Prop} (hO0 : OK h0) (a1 : Int32) (b1 : 1 ≤ a1.toInt ∧ a1.toInt ≤ 4) (hQ : ∀ r, (∃ q, r = some (.inl (bi q)) ∧ (q = true → fO h0 5 1 + a1.toInt ≤ 120) ∧ (q = false → 120 < fO h0 5 1 + a1.toInt)) → Q r h0) : uCall Mt (d + 1) 92 [(.inr (.inr (some 5))), (.inl a1)] h0 kc ks Q := by
  have l_0 : ((0) : Int32).toInt = 0 := by decide
  have l_1 : ((1) : Int32).toInt = 1 := by decide
  have l_120 : ((120) : Int32).toInt = 120 := by decide
  refine uc_ink [some (.inr (.inr (some 5))), some (.inl a1)] mt_92 (Nat.le_of_ble_eq_true rfl) rfl ?_
  obtain ⟨f2, f3, f4, f5, hc1, k6⟩ := ok_5 hO0
  have t7 := fO_of (k := 1) hc1 rfl
  refine ur_ldA rfl rfl ?_
  refine ur_get rfl hc1 rfl ?_
  refine ur_ldI rfl rfl ?_
  refine ur_binV rfl (fun x8 e9 => ?_)
  have z10 := any_r f2
  have z11 := any_r a1
  have t12 := ti_add e9 (by omega) (by omega)
  refine ur_push rfl ?_
  refine ur_if2 rfl (fun c13 => ?_) (fun c13 => ?_)
  · have t14 := lt_to c13
    refine ur_push rfl ?_
    exact ur_ret rfl rfl (hQ _ ⟨false, rfl, fun e => absurd e (by decide), fun _ => by omega⟩ )
  · have t15 := lt_no c13
    refine ur_push rfl ?_
    refine ur_go rfl ?_
    exact ur_ret rfl rfl (hQ _ ⟨true, rfl, fun _ => by omega, fun e => absurd e (by decide)⟩ )

set_option maxRecDepth 20000 in
set_option maxHeartbeats 4000000 in
theorem sd_X8_takeBytes {d kc ks : Nat} {h0 : aH} {Q : Option aV → aH → Prop} (hO0 : OK h0) (a1 : Int32) (b1 : 1 ≤ a1.toInt ∧ a1.toInt ≤ 4) (a2 : Int32) (pre0 : fO h0 5 1 + a1.toInt ≤ 120) (hQ : ∀ r h', (∃ x : Int32, r = some (.inl x) ∧ (x.toInt = fO h0 5 1 + a1.toInt ∧ fO h' 5 1 = fO h0 5 1 + a1.toInt)) → OK h' → un [6, 1501] h0 h' → Q r h') : uCall Mt (d + 1) 93 [(.inr (.inr (some 5))), (.inl a1), (.inl a2)] h0 kc ks Q := by
  have l_0 : ((0) : Int32).toInt = 0 := by decide
  have l_1 : ((1) : Int32).toInt = 1 := by decide
  have l_8 : ((8) : Int32).toInt = 8 := by decide
  have l_120 : ((120) : Int32).toInt = 120 := by decide
  have l_255 : ((255) : Int32).toInt = 255 := by decide
  refine uc_ink [some (.inr (.inr (some 5))), some (.inl a1), some (.inl a2), none] mt_93 (Nat.le_of_ble_eq_true rfl) rfl ?_
  obtain ⟨f2, f3, f4, f5, hc1, k6⟩ := ok_5 hO0
  have t7 := fO_of (k := 1) hc1 rfl
  refine ur_push rfl ?_
  refine ur_svIk [some (.inr (.inr (some 5))), some (.inl a1), some (.inl a2), some (.inl 0)] rfl rfl ?_
  have L9 : ∀ (m10 : Nat) (x8 : Int32) (h12 : aH) , OK h12 → un [6, 1501] h0 h12 → ((0 ≤ x8.toInt ∧ x8.toInt ≤ 4) ∧ fO h12 5 1 = fO h0 5 1 + x8.toInt ∧ x8.toInt ≤ a1.toInt) → ((5 - x8.toInt).toNat) < m10 → uRun oX8_takeBytes (uCall Mt (d + 0)) Q 2 ([some (.inr (.inr (some 5))), some (.inl a1), some (.inl a2), some (.inl x8)], [], h12, kc, ks) := by
    intro m10
    induction m10 with
    | zero => intro x8 h12 hO12 hu12 iv13 mm14; omega
    | succ m10 ih11 =>
      intro x8 h12 hO12 hu12 iv13 mm14
      refine ur_ldI rfl rfl ?_
      refine ur_ldI rfl rfl ?_
      have z15 := any_r x8
      have z16 := any_r a1
      refine ur_if2 rfl (fun c17 => ?_) (fun c17 => ?_)
      · have t18 := le_to c17
        refine ur_ldA rfl rfl ?_
        obtain ⟨f20, f21, f22, f23, hc19, k24⟩ := ok_5 hO12
        refine ur_get rfl hc19 rfl ?_
        have t25 := fO_of (k := 1) hc19 rfl
        exact ur_ret rfl rfl (hQ _ _ ⟨_, rfl, by omega⟩ hO12 hu12)
      · have t26 := le_no c17
        refine ur_ldA rfl rfl ?_
        obtain ⟨f28, f29, f30, f31, hc27, k32⟩ := ok_5 hO12
        refine ur_get rfl hc27 rfl ?_
        have t33 := fO_of (k := 1) hc27 rfl
        refine ur_push rfl ?_
        refine ur_if2 rfl (fun c34 => ?_) (fun c34 => ?_)
        · have t35 := le_to c34
          refine ur_ldA rfl rfl ?_
          refine ur_get rfl hc27 rfl ?_
          exact ur_ret rfl rfl (hQ _ _ ⟨_, rfl, by omega⟩ hO12 hu12)
        · have t36 := le_no c34
          refine ur_ldA rfl rfl ?_
          refine ur_get rfl hc27 rfl ?_
          refine ur_ldA rfl rfl ?_
          refine ur_get rfl hc27 rfl ?_
          refine ur_ldI rfl rfl ?_
          refine ur_push rfl ?_
          refine ur_ldI rfl rfl ?_
          refine ur_binV rfl (fun x37 e38 => ?_)
          have t39 := ti_mulR e38 l_8 (by omega) (by omega)
          refine ur_binV rfl (fun x40 e41 => ?_)
          refine ur_push rfl ?_
          refine ur_binV rfl (fun x42 e43 => ?_)
          have t44 := and_255 e43
          obtain ⟨xs46, hc45, hn47, he48⟩ := hO12.int (hO12.fix 6 (by decide) rfl)
          refine ur_astV (W := [6, 1501]) (m := 120) rfl hO12 hc45 (by decide) hn47 (by omega) (any_r _) (Or.inr (Or.inr (wid_fix (by decide) (by decide)))) (fun h51 hO51 hu51 d49 hc50 => ?_)
          refine ur_ldA rfl rfl ?_
          refine ur_dup rfl rfl ?_
          refine ur_get rfl ((d49 _ (by decide)).trans hc27) rfl ?_
          have t52 := fO_of (k := 1) ((d49 _ (by decide)).trans hc27) rfl
          refine ur_push rfl ?_
          refine ur_binV rfl (fun x53 e54 => ?_)
          have z55 := any_r f28
          have t56 := ti_add e54 (by omega) (by omega)
          refine ur_putV (W := [6, 1501]) (fs' := [(.inr (.inr (some 6))), (.inl x53), (.inl f29), (.inl f30), (.inr (.inr (some 7))), (.inl f31)]) rfl hO51 ((d49 _ (by decide)).trans hc27) (Nat.le_of_ble_eq_true rfl) rfl rfl ⟨rfl, _, _, _, _, rfl, by omega⟩ rfl (Or.inr (by show 1000 + 100 * wid 5 (108, 6) + 1 ∈ _; rw [(wid_f (by decide))]; decide)) (fun h58 hO58 hu58 d57 hc59 => ?_)
          refine ur_incV (fun z => [some (.inr (.inr (some 5))), some (.inl a1), some (.inl a2), some (.inl z)]) rfl rfl (fun _ => rfl) (fun x60 e61 => ?_)
          have t62 := ti_add e61 (by omega) (by omega)
          refine ur_go rfl ?_
          have t63 := fO_of (k := 1) hc59 rfl
          have z64 := any_r x60
          exact ih11 x60 _ hO58 (hu12.tr (hu51.tr hu58)) (by omega) (by omega)
  exact L9 _ 0 _ hO0 un.rf (by omega) (Nat.lt_succ_self _)

set_option maxRecDepth 20000 in
set_option maxHeartbeats 4000000 in
theorem sd_X11_feed {d kc ks : Nat} {h0 : aH} {Q : Option aV → aH → Prop} (hO0 : OK h0) (a1 : Int32) (a2 : Int32) (hQ : ∀ r h', (∃ x : Int32, r = some (.inl x) ∧ (¬ (1 ≤ a1.toInt ∧ a1.toInt ≤ 4) ∧ x.toInt = -1 ∧ fO h' 5 1 = fO h0 5 1 ∨ (1 ≤ a1.toInt ∧ a1.toInt ≤ 4) ∧ 120 < fO h0 5 1 + a1.toInt ∧ x.toInt = -3 ∧ fO h' 5 1 = fO h0 5 1 ∨ (1 ≤ a1.toInt ∧ a1.toInt ≤ 4) ∧ fO h0 5 1 + a1.toInt ≤ 120 ∧ x.toInt = fO h0 5 1 + a1.toInt ∧ fO h' 5 1 = fO h0 5 1 + a1.toInt)) → OK h' → un [6, 1501] h0 h' → Q r h') : uCall Mt (d + 2) 130 [(.inr (.inr (some 0))), (.inl a1), (.inl a2)] h0 kc ks Q := by
  have l_m3 : ((-3) : Int32).toInt = -3 := by decide
  have l_m1 : ((-1) : Int32).toInt = -1 := by decide
  have l_1 : ((1) : Int32).toInt = 1 := by decide
  have l_4 : ((4) : Int32).toInt = 4 := by decide
  refine uc_ink [some (.inr (.inr (some 0))), some (.inl a1), some (.inl a2)] mt_130 (Nat.le_of_ble_eq_true rfl) rfl ?_
  obtain ⟨f2, f3, f4, f5, hc1, k6⟩ := ok_5 hO0
  have t7 := fO_of (k := 1) hc1 rfl
  refine ur_ldI rfl rfl ?_
  refine ur_push rfl ?_
  refine ur_push rfl ?_
  refine ur_callv rfl rfl (Nat.le_of_ble_eq_true rfl) (Nat.le_of_ble_eq_true rfl) rfl (sp_within _ _ _ _ _) ?_
  refine ur_neB rfl (fun c10 => ?_) (fun c10 => ?_)
  · have t11 := wi_toL c10 l_1 l_4
    refine ur_ldA rfl rfl ?_
    obtain ⟨hc12, k13⟩ := ok_0 hO0
    refine ur_get rfl hc12 rfl ?_
    refine ur_ldI rfl rfl ?_
    refine ur_inl rfl (rcv_of hc1) (Nat.le_of_ble_eq_true rfl) (Nat.le_of_ble_eq_true rfl) (sd_X8_hasRoomFor hO0 _ (by show 1 ≤ a1.toInt ∧ a1.toInt ≤ 4; omega) (fun w14 hr15 => ?_))
    obtain ⟨b16, rfl, t17, t18⟩ := hr15
    show uRun _ (uCall Mt _) _ 19 (_, [(.inl (bi b16))], _, _, _)
    refine ur_neB rfl (fun c19 => ?_) (fun c19 => ?_)
    · have t20 := t17 c19
      refine ur_ldA rfl rfl ?_
      refine ur_get rfl hc12 rfl ?_
      refine ur_ldI rfl rfl ?_
      refine ur_ldI rfl rfl ?_
      refine ur_inl rfl (rcv_of hc1) (Nat.le_of_ble_eq_true rfl) (Nat.le_of_ble_eq_true rfl) (sd_X8_takeBytes hO0 _ (by show 1 ≤ a1.toInt ∧ a1.toInt ≤ 4; omega) _ (by omega) (fun w21 h23 hr22 hO23 hv23 => ?_))
      have hu23 := hv23
      obtain ⟨x24, rfl, t25⟩ := hr22
      show uRun _ (uCall Mt _) _ 34 (_, [(.inl x24)], _, _, _)
      obtain ⟨f27, f28, f29, f30, hc26, k31⟩ := ok_5 hO23
      have t32 := fO_of (k := 1) hc26 rfl
      exact ur_ret rfl rfl (hQ _ _ ⟨_, rfl, Or.inr (Or.inr ⟨by omega, by omega, by omega, by omega⟩)⟩ hO23 hu23)
    · have t33 := t18 c19
      refine ur_push rfl ?_
      exact ur_ret rfl rfl (hQ _ _ ⟨_, rfl, Or.inr (Or.inl ⟨by omega, by omega, by omega, by omega⟩)⟩ hO0 un.rf)
  · have t34 := wi_noL c10 l_1 l_4
    refine ur_push rfl ?_
    exact ur_ret rfl rfl (hQ _ _ ⟨_, rfl, Or.inl ⟨by omega, by omega, by omega⟩⟩ hO0 un.rf)

set_option maxRecDepth 20000 in
set_option maxHeartbeats 4000000 in
theorem sd_X8_becomeText {d kc ks : Nat} {h0 : aH} {Q : Option aV → aH → Prop} (hO0 : OK h0) {a1 : Nat} (t1 : tg h0 a1 = (109, 2)) (hQ : ∀ r h', (∃ x, r = some (.inl x)) → OK h' → un [10, 12, 24, 26, 28, 30, 32, 34, 36, 38, 40, 1501, 1901, 2101, 3301, 3501, 3701, 3901, 4101, 4301, 4501, 4701, 4901] h0 h' → (fO h' 5 1 = 0) → Q r h') : uCall Mt (d + 47) 94 [(.inr (.inr (some 5))), (.inr (.inr (some a1)))] h0 kc ks Q := by
  have l_m1 : ((-1) : Int32).toInt = -1 := by decide
  have l_0 : ((0) : Int32).toInt = 0 := by decide
  have l_1 : ((1) : Int32).toInt = 1 := by decide
  have l_59 : ((59) : Int32).toInt = 59 := by decide
  refine uc_ink [some (.inr (.inr (some 5))), some (.inr (.inr (some a1))), none] mt_94 (Nat.le_of_ble_eq_true rfl) rfl ?_
  obtain ⟨f2, f3, f4, f5, hc1, k6⟩ := ok_5 hO0
  have t7 := fO_of (k := 1) hc1 rfl
  refine ur_ldA rfl rfl ?_
  refine ur_push rfl ?_
  refine ur_putV (W := [10, 12, 24, 26, 28, 30, 32, 34, 36, 38, 40, 1501, 1901, 2101, 3301, 3501, 3701, 3901, 4101, 4301, 4501, 4701, 4901]) (fs' := [(.inr (.inr (some 6))), (.inl f2), (.inl 0), (.inl f4), (.inr (.inr (some 7))), (.inl f5)]) rfl hO0 hc1 (Nat.le_of_ble_eq_true rfl) rfl rfl ⟨rfl, _, _, _, _, rfl, by omega⟩ rfl (Or.inl rfl) (fun h9 hO9 hu9 d8 hc10 => ?_)
  refine ur_ldA rfl rfl ?_
  refine ur_push rfl ?_
  have t11 := fO_of (k := 1) hc10 rfl
  refine ur_putV (W := [10, 12, 24, 26, 28, 30, 32, 34, 36, 38, 40, 1501, 1901, 2101, 3301, 3501, 3701, 3901, 4101, 4301, 4501, 4701, 4901]) (fs' := [(.inr (.inr (some 6))), (.inl f2), (.inl 0), (.inl f4), (.inr (.inr (some 7))), (.inl 0)]) rfl hO9 hc10 (Nat.le_of_ble_eq_true rfl) rfl rfl ⟨rfl, _, _, _, _, rfl, by omega⟩ rfl (Or.inl rfl) (fun h13 hO13 hu13 d12 hc14 => ?_)
  refine ur_ldA rfl rfl ?_
  refine ur_push rfl ?_
  have t15 := fO_of (k := 1) hc14 rfl
  refine ur_putV (W := [10, 12, 24, 26, 28, 30, 32, 34, 36, 38, 40, 1501, 1901, 2101, 3301, 3501, 3701, 3901, 4101, 4301, 4501, 4701, 4901]) (fs' := [(.inr (.inr (some 6))), (.inl f2), (.inl 0), (.inl (-1)), (.inr (.inr (some 7))), (.inl 0)]) rfl hO13 hc14 (Nat.le_of_ble_eq_true rfl) rfl rfl ⟨rfl, _, _, _, _, rfl, by omega⟩ rfl (Or.inl rfl) (fun h17 hO17 hu17 d16 hc18 => ?_)
  refine ur_ldA rfl rfl ?_
  refine ur_inl rfl (rcv_of hc18) (Nat.le_of_ble_eq_true rfl) (Nat.le_of_ble_eq_true rfl) (sf_X8_readLine hO17  (fun w19 h21 hr20 hO21 hv21 => ?_))
  have hu21 : un [10, 12, 24, 26, 28, 30, 32, 34, 36, 38, 40, 1501, 1901, 2101, 3301, 3501, 3701, 3901, 4101, 4301, 4501, 4701, 4901] h17 h21 := hv21.mono (by decide)
  subst hr20
  show uRun _ (uCall Mt _) _ 19 (_, [], _, _, _)
  refine ur_push rfl ?_
  refine ur_svIk [some (.inr (.inr (some 5))), some (.inr (.inr (some a1))), some (.inl 0)] rfl rfl ?_
  obtain ⟨f27, f28, f29, f30, hc26, k31⟩ := ok_5 hO21
  have t32 := fO_of (k := 1) hc26 rfl
  have L23 : ∀ (m24 : Nat) (x22 : Int32) (h33 : aH) , OK h33 → un [10, 12, 24, 26, 28, 30, 32, 34, 36, 38, 40, 1501, 1901, 2101, 3301, 3501, 3701, 3901, 4101, 4301, 4501, 4701, 4901] h21 h33 → ((0 ≤ x22.toInt ∧ x22.toInt ≤ 2147483647)) → ((2147483648 - x22.toInt).toNat) < m24 → uRun oX8_becomeText (uCall Mt (d + 46)) Q 21 ([some (.inr (.inr (some 5))), some (.inr (.inr (some a1))), some (.inl x22)], [], h33, kc, ks) := by
    intro m24
    induction m24 with
    | zero => intro x22 h33 hO33 hu33 iv34 mm35; omega
    | succ m24 ih25 =>
      intro x22 h33 hO33 hu33 iv34 mm35
      refine ur_ldI rfl rfl ?_
      refine ur_ldA rfl rfl ?_
      obtain ⟨f37, f38, f39, f40, hc36, k41⟩ := ok_5 hO33
      refine ur_get rfl hc36 rfl ?_
      have t42 := fO_of (k := 1) hc36 rfl
      have z43 := any_r x22
      have z44 := any_r f37
      refine ur_if2 rfl (fun c45 => ?_) (fun c45 => ?_)
      · have t46 := le_to c45
        refine ur_ldA rfl rfl ?_
        refine ur_get rfl hc36 rfl ?_
        refine ur_push rfl ?_
        refine ur_if2 rfl (fun c47 => ?_) (fun c47 => ?_)
        · have t48 := ne_to c47
          refine ur_ldA rfl rfl ?_
          refine ur_get rfl hc36 rfl ?_
          refine ur_push rfl ?_
          refine ur_if2 rfl (fun c49 => ?_) (fun c49 => ?_)
          · have t50 := ne_to c49
            refine ur_ldA rfl rfl ?_
            refine ur_push rfl ?_
            refine ur_putV (W := [10, 12, 24, 26, 28, 30, 32, 34, 36, 38, 40, 1501, 1901, 2101, 3301, 3501, 3701, 3901, 4101, 4301, 4501, 4701, 4901]) (fs' := [(.inr (.inr (some 6))), (.inl 0), (.inl f38), (.inl f39), (.inr (.inr (some 7))), (.inl f40)]) rfl hO33 hc36 (Nat.le_of_ble_eq_true rfl) rfl rfl ⟨rfl, _, _, _, _, rfl, by omega⟩ rfl (Or.inr (by show 1000 + 100 * wid 5 (108, 6) + 1 ∈ _; rw [(wid_f (by decide))]; decide)) (fun h52 hO52 hu52 d51 hc53 => ?_)
            refine ur_ldA rfl rfl ?_
            refine ur_get rfl hc53 rfl ?_
            have t54 := fO_of (k := 1) hc53 rfl
            exact ur_ret rfl rfl (hQ _ _ ⟨_, rfl⟩ hO52 (hu9.tr (hu13.tr (hu17.tr (hu21.tr (hu33.tr hu52))))) (by omega))
          · have t55 := ne_no c49
            refine ur_ldA rfl rfl ?_
            refine ur_ldA rfl rfl ?_
            refine ur_get rfl hc36 rfl ?_
            refine ur_ldA rfl rfl ?_
            refine ur_get rfl hc36 rfl ?_
            obtain ⟨g60, f57, hc56, k58, k59⟩ := hO33.text (hu33.tm (hu21.tm (hu17.tm (hu13.tm (hu9.tm t1 (by decide)) (by decide)) (by decide)) (by decide)) (by decide))
            refine ur_inl rfl (rcv_of hc56) (Nat.le_of_ble_eq_true rfl) (Nat.le_of_ble_eq_true rfl) (sf_X9_takeSteps hO33 (hu33.tm (hu21.tm (hu17.tm (hu13.tm (hu9.tm t1 (by decide)) (by decide)) (by decide)) (by decide)) (by decide)) (hO33.fix 7 (by decide) rfl) _ (by show 0 ≤ f40.toInt ∧ f40.toInt ≤ 128; omega) (fun w61 h63 hr62 hO63 hv63 => ?_))
            have hu63 : un [10, 12, 24, 26, 28, 30, 32, 34, 36, 38, 40, 1501, 1901, 2101, 3301, 3501, 3701, 3901, 4101, 4301, 4501, 4701, 4901] h33 h63 := hv63.mono (by decide)
            subst hr62
            show uRun _ (uCall Mt _) _ 95 (_, [], _, _, _)
            refine ur_ldA rfl rfl ?_
            refine ur_push rfl ?_
            obtain ⟨f65, f66, f67, f68, hc64, k69⟩ := ok_5 hO63
            have t70 := fO_of (k := 1) hc64 rfl
            refine ur_putV (W := [10, 12, 24, 26, 28, 30, 32, 34, 36, 38, 40, 1501, 1901, 2101, 3301, 3501, 3701, 3901, 4101, 4301, 4501, 4701, 4901]) (fs' := [(.inr (.inr (some 6))), (.inl 0), (.inl f66), (.inl f67), (.inr (.inr (some 7))), (.inl f68)]) rfl hO63 hc64 (Nat.le_of_ble_eq_true rfl) rfl rfl ⟨rfl, _, _, _, _, rfl, by omega⟩ rfl (Or.inr (by show 1000 + 100 * wid 5 (108, 6) + 1 ∈ _; rw [(wid_f (by decide))]; decide)) (fun h72 hO72 hu72 d71 hc73 => ?_)
            refine ur_ldA rfl rfl ?_
            refine ur_get rfl hc73 rfl ?_
            have t74 := fO_of (k := 1) hc73 rfl
            exact ur_ret rfl rfl (hQ _ _ ⟨_, rfl⟩ hO72 (hu9.tr (hu13.tr (hu17.tr (hu21.tr (hu33.tr (hu63.tr hu72)))))) (by omega))
        · have t75 := ne_no c47
          refine ur_ldA rfl rfl ?_
          refine ur_get rfl hc36 rfl ?_
          refine ur_ldA rfl rfl ?_
          refine ur_get rfl hc36 rfl ?_
          have z76 := any_r f38
          refine ur_if2 rfl (fun c77 => ?_) (fun c77 => ?_)
          · have t78 := le_to c77
            refine ur_ldA rfl rfl ?_
            refine ur_get rfl hc36 rfl ?_
            refine ur_push rfl ?_
            refine ur_if2 rfl (fun c79 => ?_) (fun c79 => ?_)
            · have t80 := ne_to c79
              exfalso
              omega
            · have t81 := ne_no c79
              refine ur_ldA rfl rfl ?_
              refine ur_ldA rfl rfl ?_
              refine ur_get rfl hc36 rfl ?_
              refine ur_ldA rfl rfl ?_
              refine ur_get rfl hc36 rfl ?_
              obtain ⟨g86, f83, hc82, k84, k85⟩ := hO33.text (hu33.tm (hu21.tm (hu17.tm (hu13.tm (hu9.tm t1 (by decide)) (by decide)) (by decide)) (by decide)) (by decide))
              refine ur_inl rfl (rcv_of hc82) (Nat.le_of_ble_eq_true rfl) (Nat.le_of_ble_eq_true rfl) (sf_X9_takeSteps hO33 (hu33.tm (hu21.tm (hu17.tm (hu13.tm (hu9.tm t1 (by decide)) (by decide)) (by decide)) (by decide)) (by decide)) (hO33.fix 7 (by decide) rfl) _ (by show 0 ≤ f40.toInt ∧ f40.toInt ≤ 128; omega) (fun w87 h89 hr88 hO89 hv89 => ?_))
              have hu89 : un [10, 12, 24, 26, 28, 30, 32, 34, 36, 38, 40, 1501, 1901, 2101, 3301, 3501, 3701, 3901, 4101, 4301, 4501, 4701, 4901] h33 h89 := hv89.mono (by decide)
              subst hr88
              show uRun _ (uCall Mt _) _ 95 (_, [], _, _, _)
              refine ur_ldA rfl rfl ?_
              refine ur_push rfl ?_
              obtain ⟨f91, f92, f93, f94, hc90, k95⟩ := ok_5 hO89
              have t96 := fO_of (k := 1) hc90 rfl
              refine ur_putV (W := [10, 12, 24, 26, 28, 30, 32, 34, 36, 38, 40, 1501, 1901, 2101, 3301, 3501, 3701, 3901, 4101, 4301, 4501, 4701, 4901]) (fs' := [(.inr (.inr (some 6))), (.inl 0), (.inl f92), (.inl f93), (.inr (.inr (some 7))), (.inl f94)]) rfl hO89 hc90 (Nat.le_of_ble_eq_true rfl) rfl rfl ⟨rfl, _, _, _, _, rfl, by omega⟩ rfl (Or.inr (by show 1000 + 100 * wid 5 (108, 6) + 1 ∈ _; rw [(wid_f (by decide))]; decide)) (fun h98 hO98 hu98 d97 hc99 => ?_)
              refine ur_ldA rfl rfl ?_
              refine ur_get rfl hc99 rfl ?_
              have t100 := fO_of (k := 1) hc99 rfl
              exact ur_ret rfl rfl (hQ _ _ ⟨_, rfl⟩ hO98 (hu9.tr (hu13.tr (hu17.tr (hu21.tr (hu33.tr (hu89.tr hu98)))))) (by omega))
          · have t101 := le_no c77
            refine ur_ldA rfl rfl ?_
            refine ur_ldA rfl rfl ?_
            refine ur_get rfl hc36 rfl ?_
            refine ur_putV (W := [10, 12, 24, 26, 28, 30, 32, 34, 36, 38, 40, 1501, 1901, 2101, 3301, 3501, 3701, 3901, 4101, 4301, 4501, 4701, 4901]) (fs' := [(.inr (.inr (some 6))), (.inl f37), (.inl f38), (.inl f38), (.inr (.inr (some 7))), (.inl f40)]) rfl hO33 hc36 (Nat.le_of_ble_eq_true rfl) rfl rfl ⟨rfl, _, _, _, _, rfl, by omega⟩ rfl (Or.inl rfl) (fun h103 hO103 hu103 d102 hc104 => ?_)
            refine ur_ldA rfl rfl ?_
            refine ur_get rfl hc104 rfl ?_
            have t105 := fO_of (k := 1) hc104 rfl
            refine ur_push rfl ?_
            refine ur_if2 rfl (fun c106 => ?_) (fun c106 => ?_)
            · have t107 := ne_to c106
              refine ur_ldA rfl rfl ?_
              refine ur_push rfl ?_
              refine ur_putV (W := [10, 12, 24, 26, 28, 30, 32, 34, 36, 38, 40, 1501, 1901, 2101, 3301, 3501, 3701, 3901, 4101, 4301, 4501, 4701, 4901]) (fs' := [(.inr (.inr (some 6))), (.inl 0), (.inl f38), (.inl f38), (.inr (.inr (some 7))), (.inl f40)]) rfl hO103 hc104 (Nat.le_of_ble_eq_true rfl) rfl rfl ⟨rfl, _, _, _, _, rfl, by omega⟩ rfl (Or.inr (by show 1000 + 100 * wid 5 (108, 6) + 1 ∈ _; rw [(wid_f (by decide))]; decide)) (fun h109 hO109 hu109 d108 hc110 => ?_)
              refine ur_ldA rfl rfl ?_
              refine ur_get rfl hc110 rfl ?_
              have t111 := fO_of (k := 1) hc110 rfl
              exact ur_ret rfl rfl (hQ _ _ ⟨_, rfl⟩ hO109 (hu9.tr (hu13.tr (hu17.tr (hu21.tr (hu33.tr (hu103.tr hu109)))))) (by omega))
            · have t112 := ne_no c106
              refine ur_ldA rfl rfl ?_
              refine ur_ldA rfl rfl ?_
              refine ur_get rfl hc104 rfl ?_
              refine ur_ldA rfl rfl ?_
              refine ur_get rfl hc104 rfl ?_
              obtain ⟨g117, f114, hc113, k115, k116⟩ := hO103.text (hu103.tm (hu33.tm (hu21.tm (hu17.tm (hu13.tm (hu9.tm t1 (by decide)) (by decide)) (by decide)) (by decide)) (by decide)) (by decide))
              refine ur_inl rfl (rcv_of hc113) (Nat.le_of_ble_eq_true rfl) (Nat.le_of_ble_eq_true rfl) (sf_X9_takeSteps hO103 (hu103.tm (hu33.tm (hu21.tm (hu17.tm (hu13.tm (hu9.tm t1 (by decide)) (by decide)) (by decide)) (by decide)) (by decide)) (by decide)) (hO103.fix 7 (by decide) rfl) _ (by show 0 ≤ f40.toInt ∧ f40.toInt ≤ 128; omega) (fun w118 h120 hr119 hO120 hv120 => ?_))
              have hu120 : un [10, 12, 24, 26, 28, 30, 32, 34, 36, 38, 40, 1501, 1901, 2101, 3301, 3501, 3701, 3901, 4101, 4301, 4501, 4701, 4901] h103 h120 := hv120.mono (by decide)
              subst hr119
              show uRun _ (uCall Mt _) _ 95 (_, [], _, _, _)
              refine ur_ldA rfl rfl ?_
              refine ur_push rfl ?_
              obtain ⟨f122, f123, f124, f125, hc121, k126⟩ := ok_5 hO120
              have t127 := fO_of (k := 1) hc121 rfl
              refine ur_putV (W := [10, 12, 24, 26, 28, 30, 32, 34, 36, 38, 40, 1501, 1901, 2101, 3301, 3501, 3701, 3901, 4101, 4301, 4501, 4701, 4901]) (fs' := [(.inr (.inr (some 6))), (.inl 0), (.inl f123), (.inl f124), (.inr (.inr (some 7))), (.inl f125)]) rfl hO120 hc121 (Nat.le_of_ble_eq_true rfl) rfl rfl ⟨rfl, _, _, _, _, rfl, by omega⟩ rfl (Or.inr (by show 1000 + 100 * wid 5 (108, 6) + 1 ∈ _; rw [(wid_f (by decide))]; decide)) (fun h129 hO129 hu129 d128 hc130 => ?_)
              refine ur_ldA rfl rfl ?_
              refine ur_get rfl hc130 rfl ?_
              have t131 := fO_of (k := 1) hc130 rfl
              exact ur_ret rfl rfl (hQ _ _ ⟨_, rfl⟩ hO129 (hu9.tr (hu13.tr (hu17.tr (hu21.tr (hu33.tr (hu103.tr (hu120.tr hu129))))))) (by omega))
      · have t132 := le_no c45
        refine ur_ldA rfl rfl ?_
        refine ur_push rfl ?_
        refine ur_inl rfl (rcv_of hc36) (Nat.le_of_ble_eq_true rfl) (Nat.le_of_ble_eq_true rfl) (sf_X8_isGoingOn hO33 _ (fun w133 h135 hr134 hO135 hv135 => ?_))
        have hu135 : un [10, 12, 24, 26, 28, 30, 32, 34, 36, 38, 40, 1501, 1901, 2101, 3301, 3501, 3701, 3901, 4101, 4301, 4501, 4701, 4901] h33 h135 := hv135.mono (by decide)
        obtain ⟨b136, rfl⟩ := hr134
        show uRun _ (uCall Mt _) _ 35 (_, [(.inl (bi b136))], _, _, _)
        refine ur_eqB rfl (fun c137 => ?_) (fun c137 => ?_)
        · refine ur_ldA rfl rfl ?_
          obtain ⟨f139, f140, f141, f142, hc138, k143⟩ := ok_5 hO135
          refine ur_get rfl hc138 rfl ?_
          have t144 := fO_of (k := 1) hc138 rfl
          refine ur_push rfl ?_
          refine ur_if2 rfl (fun c145 => ?_) (fun c145 => ?_)
          · have t146 := ne_to c145
            refine ur_ldA rfl rfl ?_
            refine ur_get rfl hc138 rfl ?_
            refine ur_push rfl ?_
            refine ur_if2 rfl (fun c147 => ?_) (fun c147 => ?_)
            · have t148 := ne_to c147
              refine ur_ldA rfl rfl ?_
              refine ur_push rfl ?_
              refine ur_putV (W := [10, 12, 24, 26, 28, 30, 32, 34, 36, 38, 40, 1501, 1901, 2101, 3301, 3501, 3701, 3901, 4101, 4301, 4501, 4701, 4901]) (fs' := [(.inr (.inr (some 6))), (.inl 0), (.inl f140), (.inl f141), (.inr (.inr (some 7))), (.inl f142)]) rfl hO135 hc138 (Nat.le_of_ble_eq_true rfl) rfl rfl ⟨rfl, _, _, _, _, rfl, by omega⟩ rfl (Or.inr (by show 1000 + 100 * wid 5 (108, 6) + 1 ∈ _; rw [(wid_f (by decide))]; decide)) (fun h150 hO150 hu150 d149 hc151 => ?_)
              refine ur_ldA rfl rfl ?_
              refine ur_get rfl hc151 rfl ?_
              have t152 := fO_of (k := 1) hc151 rfl
              exact ur_ret rfl rfl (hQ _ _ ⟨_, rfl⟩ hO150 (hu9.tr (hu13.tr (hu17.tr (hu21.tr (hu33.tr (hu135.tr hu150)))))) (by omega))
            · have t153 := ne_no c147
              refine ur_ldA rfl rfl ?_
              refine ur_ldA rfl rfl ?_
              refine ur_get rfl hc138 rfl ?_
              refine ur_ldA rfl rfl ?_
              refine ur_get rfl hc138 rfl ?_
              obtain ⟨g158, f155, hc154, k156, k157⟩ := hO135.text (hu135.tm (hu33.tm (hu21.tm (hu17.tm (hu13.tm (hu9.tm t1 (by decide)) (by decide)) (by decide)) (by decide)) (by decide)) (by decide))
              refine ur_inl rfl (rcv_of hc154) (Nat.le_of_ble_eq_true rfl) (Nat.le_of_ble_eq_true rfl) (sf_X9_takeSteps hO135 (hu135.tm (hu33.tm (hu21.tm (hu17.tm (hu13.tm (hu9.tm t1 (by decide)) (by decide)) (by decide)) (by decide)) (by decide)) (by decide)) (hO135.fix 7 (by decide) rfl) _ (by show 0 ≤ f142.toInt ∧ f142.toInt ≤ 128; omega) (fun w159 h161 hr160 hO161 hv161 => ?_))
              have hu161 : un [10, 12, 24, 26, 28, 30, 32, 34, 36, 38, 40, 1501, 1901, 2101, 3301, 3501, 3701, 3901, 4101, 4301, 4501, 4701, 4901] h135 h161 := hv161.mono (by decide)
              subst hr160
              show uRun _ (uCall Mt _) _ 95 (_, [], _, _, _)
              refine ur_ldA rfl rfl ?_
              refine ur_push rfl ?_
              obtain ⟨f163, f164, f165, f166, hc162, k167⟩ := ok_5 hO161
              have t168 := fO_of (k := 1) hc162 rfl
              refine ur_putV (W := [10, 12, 24, 26, 28, 30, 32, 34, 36, 38, 40, 1501, 1901, 2101, 3301, 3501, 3701, 3901, 4101, 4301, 4501, 4701, 4901]) (fs' := [(.inr (.inr (some 6))), (.inl 0), (.inl f164), (.inl f165), (.inr (.inr (some 7))), (.inl f166)]) rfl hO161 hc162 (Nat.le_of_ble_eq_true rfl) rfl rfl ⟨rfl, _, _, _, _, rfl, by omega⟩ rfl (Or.inr (by show 1000 + 100 * wid 5 (108, 6) + 1 ∈ _; rw [(wid_f (by decide))]; decide)) (fun h170 hO170 hu170 d169 hc171 => ?_)
              refine ur_ldA rfl rfl ?_
              refine ur_get rfl hc171 rfl ?_
              have t172 := fO_of (k := 1) hc171 rfl
              exact ur_ret rfl rfl (hQ _ _ ⟨_, rfl⟩ hO170 (hu9.tr (hu13.tr (hu17.tr (hu21.tr (hu33.tr (hu135.tr (hu161.tr hu170))))))) (by omega))
          · have t173 := ne_no c145
            refine ur_ldA rfl rfl ?_
            refine ur_get rfl hc138 rfl ?_
            refine ur_ldA rfl rfl ?_
            refine ur_get rfl hc138 rfl ?_
            have z174 := any_r f140
            have z175 := any_r f139
            refine ur_if2 rfl (fun c176 => ?_) (fun c176 => ?_)
            · have t177 := le_to c176
              refine ur_ldA rfl rfl ?_
              refine ur_get rfl hc138 rfl ?_
              refine ur_push rfl ?_
              refine ur_if2 rfl (fun c178 => ?_) (fun c178 => ?_)
              · have t179 := ne_to c178
                exfalso
                omega
              · have t180 := ne_no c178
                refine ur_ldA rfl rfl ?_
                refine ur_ldA rfl rfl ?_
                refine ur_get rfl hc138 rfl ?_
                refine ur_ldA rfl rfl ?_
                refine ur_get rfl hc138 rfl ?_
                obtain ⟨g185, f182, hc181, k183, k184⟩ := hO135.text (hu135.tm (hu33.tm (hu21.tm (hu17.tm (hu13.tm (hu9.tm t1 (by decide)) (by decide)) (by decide)) (by decide)) (by decide)) (by decide))
                refine ur_inl rfl (rcv_of hc181) (Nat.le_of_ble_eq_true rfl) (Nat.le_of_ble_eq_true rfl) (sf_X9_takeSteps hO135 (hu135.tm (hu33.tm (hu21.tm (hu17.tm (hu13.tm (hu9.tm t1 (by decide)) (by decide)) (by decide)) (by decide)) (by decide)) (by decide)) (hO135.fix 7 (by decide) rfl) _ (by show 0 ≤ f142.toInt ∧ f142.toInt ≤ 128; omega) (fun w186 h188 hr187 hO188 hv188 => ?_))
                have hu188 : un [10, 12, 24, 26, 28, 30, 32, 34, 36, 38, 40, 1501, 1901, 2101, 3301, 3501, 3701, 3901, 4101, 4301, 4501, 4701, 4901] h135 h188 := hv188.mono (by decide)
                subst hr187
                show uRun _ (uCall Mt _) _ 95 (_, [], _, _, _)
                refine ur_ldA rfl rfl ?_
                refine ur_push rfl ?_
                obtain ⟨f190, f191, f192, f193, hc189, k194⟩ := ok_5 hO188
                have t195 := fO_of (k := 1) hc189 rfl
                refine ur_putV (W := [10, 12, 24, 26, 28, 30, 32, 34, 36, 38, 40, 1501, 1901, 2101, 3301, 3501, 3701, 3901, 4101, 4301, 4501, 4701, 4901]) (fs' := [(.inr (.inr (some 6))), (.inl 0), (.inl f191), (.inl f192), (.inr (.inr (some 7))), (.inl f193)]) rfl hO188 hc189 (Nat.le_of_ble_eq_true rfl) rfl rfl ⟨rfl, _, _, _, _, rfl, by omega⟩ rfl (Or.inr (by show 1000 + 100 * wid 5 (108, 6) + 1 ∈ _; rw [(wid_f (by decide))]; decide)) (fun h197 hO197 hu197 d196 hc198 => ?_)
                refine ur_ldA rfl rfl ?_
                refine ur_get rfl hc198 rfl ?_
                have t199 := fO_of (k := 1) hc198 rfl
                exact ur_ret rfl rfl (hQ _ _ ⟨_, rfl⟩ hO197 (hu9.tr (hu13.tr (hu17.tr (hu21.tr (hu33.tr (hu135.tr (hu188.tr hu197))))))) (by omega))
            · have t200 := le_no c176
              refine ur_ldA rfl rfl ?_
              refine ur_ldA rfl rfl ?_
              refine ur_get rfl hc138 rfl ?_
              refine ur_putV (W := [10, 12, 24, 26, 28, 30, 32, 34, 36, 38, 40, 1501, 1901, 2101, 3301, 3501, 3701, 3901, 4101, 4301, 4501, 4701, 4901]) (fs' := [(.inr (.inr (some 6))), (.inl f139), (.inl f140), (.inl f140), (.inr (.inr (some 7))), (.inl f142)]) rfl hO135 hc138 (Nat.le_of_ble_eq_true rfl) rfl rfl ⟨rfl, _, _, _, _, rfl, by omega⟩ rfl (Or.inl rfl) (fun h202 hO202 hu202 d201 hc203 => ?_)
              refine ur_ldA rfl rfl ?_
              refine ur_get rfl hc203 rfl ?_
              have t204 := fO_of (k := 1) hc203 rfl
              refine ur_push rfl ?_
              refine ur_if2 rfl (fun c205 => ?_) (fun c205 => ?_)
              · have t206 := ne_to c205
                refine ur_ldA rfl rfl ?_
                refine ur_push rfl ?_
                refine ur_putV (W := [10, 12, 24, 26, 28, 30, 32, 34, 36, 38, 40, 1501, 1901, 2101, 3301, 3501, 3701, 3901, 4101, 4301, 4501, 4701, 4901]) (fs' := [(.inr (.inr (some 6))), (.inl 0), (.inl f140), (.inl f140), (.inr (.inr (some 7))), (.inl f142)]) rfl hO202 hc203 (Nat.le_of_ble_eq_true rfl) rfl rfl ⟨rfl, _, _, _, _, rfl, by omega⟩ rfl (Or.inr (by show 1000 + 100 * wid 5 (108, 6) + 1 ∈ _; rw [(wid_f (by decide))]; decide)) (fun h208 hO208 hu208 d207 hc209 => ?_)
                refine ur_ldA rfl rfl ?_
                refine ur_get rfl hc209 rfl ?_
                have t210 := fO_of (k := 1) hc209 rfl
                exact ur_ret rfl rfl (hQ _ _ ⟨_, rfl⟩ hO208 (hu9.tr (hu13.tr (hu17.tr (hu21.tr (hu33.tr (hu135.tr (hu202.tr hu208))))))) (by omega))
              · have t211 := ne_no c205
                refine ur_ldA rfl rfl ?_
                refine ur_ldA rfl rfl ?_
                refine ur_get rfl hc203 rfl ?_
                refine ur_ldA rfl rfl ?_
                refine ur_get rfl hc203 rfl ?_
                obtain ⟨g216, f213, hc212, k214, k215⟩ := hO202.text (hu202.tm (hu135.tm (hu33.tm (hu21.tm (hu17.tm (hu13.tm (hu9.tm t1 (by decide)) (by decide)) (by decide)) (by decide)) (by decide)) (by decide)) (by decide))
                refine ur_inl rfl (rcv_of hc212) (Nat.le_of_ble_eq_true rfl) (Nat.le_of_ble_eq_true rfl) (sf_X9_takeSteps hO202 (hu202.tm (hu135.tm (hu33.tm (hu21.tm (hu17.tm (hu13.tm (hu9.tm t1 (by decide)) (by decide)) (by decide)) (by decide)) (by decide)) (by decide)) (by decide)) (hO202.fix 7 (by decide) rfl) _ (by show 0 ≤ f142.toInt ∧ f142.toInt ≤ 128; omega) (fun w217 h219 hr218 hO219 hv219 => ?_))
                have hu219 : un [10, 12, 24, 26, 28, 30, 32, 34, 36, 38, 40, 1501, 1901, 2101, 3301, 3501, 3701, 3901, 4101, 4301, 4501, 4701, 4901] h202 h219 := hv219.mono (by decide)
                subst hr218
                show uRun _ (uCall Mt _) _ 95 (_, [], _, _, _)
                refine ur_ldA rfl rfl ?_
                refine ur_push rfl ?_
                obtain ⟨f221, f222, f223, f224, hc220, k225⟩ := ok_5 hO219
                have t226 := fO_of (k := 1) hc220 rfl
                refine ur_putV (W := [10, 12, 24, 26, 28, 30, 32, 34, 36, 38, 40, 1501, 1901, 2101, 3301, 3501, 3701, 3901, 4101, 4301, 4501, 4701, 4901]) (fs' := [(.inr (.inr (some 6))), (.inl 0), (.inl f222), (.inl f223), (.inr (.inr (some 7))), (.inl f224)]) rfl hO219 hc220 (Nat.le_of_ble_eq_true rfl) rfl rfl ⟨rfl, _, _, _, _, rfl, by omega⟩ rfl (Or.inr (by show 1000 + 100 * wid 5 (108, 6) + 1 ∈ _; rw [(wid_f (by decide))]; decide)) (fun h228 hO228 hu228 d227 hc229 => ?_)
                refine ur_ldA rfl rfl ?_
                refine ur_get rfl hc229 rfl ?_
                have t230 := fO_of (k := 1) hc229 rfl
                exact ur_ret rfl rfl (hQ _ _ ⟨_, rfl⟩ hO228 (hu9.tr (hu13.tr (hu17.tr (hu21.tr (hu33.tr (hu135.tr (hu202.tr (hu219.tr hu228)))))))) (by omega))
        · refine ur_ldA rfl rfl ?_
          obtain ⟨f232, f233, f234, f235, hc231, k236⟩ := ok_5 hO135
          refine ur_inl rfl (rcv_of hc231) (Nat.le_of_ble_eq_true rfl) (Nat.le_of_ble_eq_true rfl) (sf_X8_readLine hO135  (fun w237 h239 hr238 hO239 hv239 => ?_))
          have hu239 : un [10, 12, 24, 26, 28, 30, 32, 34, 36, 38, 40, 1501, 1901, 2101, 3301, 3501, 3701, 3901, 4101, 4301, 4501, 4701, 4901] h135 h239 := hv239.mono (by decide)
          subst hr238
          show uRun _ (uCall Mt _) _ 42 (_, [], _, _, _)
          refine ur_incV (fun z => [some (.inr (.inr (some 5))), some (.inr (.inr (some a1))), some (.inl z)]) rfl rfl (fun _ => rfl) (fun x240 e241 => ?_)
          have t242 := ti_add e241 (by omega) (by omega)
          refine ur_go rfl ?_
          obtain ⟨f244, f245, f246, f247, hc243, k248⟩ := ok_5 hO239
          have t249 := fO_of (k := 1) hc243 rfl
          have z250 := any_r x240
          exact ih25 x240 _ hO239 (hu33.tr (hu135.tr hu239)) (by omega) (by omega)
  exact L23 _ 0 _ hO21 un.rf (by omega) (Nat.lt_succ_self _)

set_option maxRecDepth 20000 in
set_option maxHeartbeats 4000000 in
theorem sd_X1_reckoningOf {d kc ks : Nat} {h0 : aH} {Q : Option aV → aH → Prop} (hO0 : OK h0) (a1 : Int32) (hQ : ∀ r, (∃ o, r = some (.inr (.inr o)) ∧ (∀ z, o = some z → z < 114 ∧ tg h0 z = (109, 2)) ∧ (o = none → ¬ (0 ≤ a1.toInt ∧ a1.toInt ≤ 8)) ∧ (∀ z, o = some z → 0 ≤ a1.toInt ∧ a1.toInt ≤ 8)) → Q r h0) : uCall Mt (d + 3) 7 [(.inr (.inr (some 15))), (.inl a1)] h0 kc ks Q := by
  have l_0 : ((0) : Int32).toInt = 0 := by decide
  have l_8 : ((8) : Int32).toInt = 8 := by decide
  refine uc_ink [some (.inr (.inr (some 15))), some (.inl a1)] mt_7 (Nat.le_of_ble_eq_true rfl) rfl ?_
  refine ur_ldI rfl rfl ?_
  refine ur_callv rfl rfl (Nat.le_of_ble_eq_true rfl) (Nat.le_of_ble_eq_true rfl) rfl (sp_isPpl _ _) ?_
  refine ur_eqB rfl (fun c3 => ?_) (fun c3 => ?_)
  · have t4 := wi_noL c3 l_0 l_8
    refine ur_push rfl ?_
    exact ur_ret rfl rfl (hQ _ ⟨_, rfl, (fun _ e => nomatch e), (fun _ => by omega), (fun _ e => nomatch e)⟩ )
  · have t5 := wi_toL c3 l_0 l_8
    refine ur_ldA rfl rfl ?_
    obtain ⟨f7, f8, f9, f10, hc6, k11⟩ := ok_15 hO0
    refine ur_get rfl hc6 rfl ?_
    refine ur_ldI rfl rfl ?_
    refine ur_txa rfl hO0 (by omega) (fun r12 k13 => ?_)
    refine ur_go rfl ?_
    exact ur_ret rfl rfl (hQ _ ⟨_, rfl, fun _ e => by cases e; exact ⟨k13.1, k13.2⟩, (fun e => nomatch e), (fun _ _ => by omega)⟩ )

set_option maxRecDepth 20000 in
set_option maxHeartbeats 4000000 in
theorem sd_X11_textOf {d kc ks : Nat} {h0 : aH} {Q : Option aV → aH → Prop} (hO0 : OK h0) (a1 : Int32) (hQ : ∀ r, (∃ o, r = some (.inr (.inr o)) ∧ (∀ z, o = some z → z < 114 ∧ tg h0 z = (109, 2)) ∧ (o = none → ¬ (0 ≤ a1.toInt ∧ a1.toInt ≤ 1 ∨ 10 ≤ a1.toInt ∧ a1.toInt ≤ 18)) ∧ (∀ z, o = some z → (0 ≤ a1.toInt ∧ a1.toInt ≤ 1 ∨ 10 ≤ a1.toInt ∧ a1.toInt ≤ 18))) → Q r h0) : uCall Mt (d + 4) 166 [(.inr (.inr (some 0))), (.inl a1)] h0 kc ks Q := by
  have l_0 : ((0) : Int32).toInt = 0 := by decide
  have l_1 : ((1) : Int32).toInt = 1 := by decide
  have l_10 : ((10) : Int32).toInt = 10 := by decide
  refine uc_ink [some (.inr (.inr (some 0))), some (.inl a1)] mt_166 (Nat.le_of_ble_eq_true rfl) rfl ?_
  refine ur_ldI rfl rfl ?_
  refine ur_if1 rfl (fun c1 => ?_) (fun c1 => ?_)
  · have t2 := ne_to c1
    refine ur_ldI rfl rfl ?_
    refine ur_push rfl ?_
    refine ur_if2 rfl (fun c3 => ?_) (fun c3 => ?_)
    · have t4 := ne_to c3
      refine ur_ldA rfl rfl ?_
      obtain ⟨hc5, k6⟩ := ok_0 hO0
      refine ur_get rfl hc5 rfl ?_
      refine ur_ldI rfl rfl ?_
      refine ur_push rfl ?_
      refine ur_binV rfl (fun x7 e8 => ?_)
      have z9 := any_r a1
      have t10 := ti_subw e8
      have z11 := any_r x7
      obtain ⟨f13, f14, f15, f16, hc12, k17⟩ := ok_15 hO0
      refine ur_inl rfl (rcv_of hc12) (Nat.le_of_ble_eq_true rfl) (Nat.le_of_ble_eq_true rfl) (sd_X1_reckoningOf hO0 _ (fun w18 hr19 => ?_))
      obtain ⟨o20, rfl, k21, t22, t23⟩ := hr19
      show uRun _ (uCall Mt _) _ 36 (_, [(.inr (.inr o20))], _, _, _)
      exact ur_ret rfl rfl (hQ _ ⟨_, rfl, k21, (fun e => by have e := t22 e; omega), (fun z e => by have e := t23 z e; omega)⟩ )
    · have t24 := ne_no c3
      refine ur_ldA rfl rfl ?_
      obtain ⟨hc25, k26⟩ := ok_0 hO0
      refine ur_get rfl hc25 rfl ?_
      obtain ⟨f28, hc27, k29⟩ := ok_8 hO0
      refine ur_get rfl hc27 rfl ?_
      exact ur_ret rfl rfl (hQ _ ⟨_, rfl, fun _ e => by cases e; exact ⟨(by decide), (hO0.fix 11 (by decide) rfl)⟩, (fun e => nomatch e), (fun _ _ => by omega)⟩ )
  · have t30 := ne_no c1
    refine ur_ldA rfl rfl ?_
    obtain ⟨hc31, k32⟩ := ok_0 hO0
    refine ur_get rfl hc31 rfl ?_
    obtain ⟨f34, hc33, k35⟩ := ok_8 hO0
    refine ur_get rfl hc33 rfl ?_
    exact ur_ret rfl rfl (hQ _ ⟨_, rfl, fun _ e => by cases e; exact ⟨(by decide), (hO0.fix 9 (by decide) rfl)⟩, (fun e => nomatch e), (fun _ _ => by omega)⟩ )

set_option maxRecDepth 20000 in
set_option maxHeartbeats 4000000 in
theorem sd_X11_text {d kc ks : Nat} {h0 : aH} {Q : Option aV → aH → Prop} (hO0 : OK h0) (a1 : Int32) (hQ : ∀ r h', (∃ x : Int32, r = some (.inl x) ∧ (((0 ≤ a1.toInt ∧ a1.toInt ≤ 1 ∨ 10 ≤ a1.toInt ∧ a1.toInt ≤ 18) → fO h' 5 1 = 0) ∧ (¬ (0 ≤ a1.toInt ∧ a1.toInt ≤ 1 ∨ 10 ≤ a1.toInt ∧ a1.toInt ≤ 18) → fO h' 5 1 = fO h0 5 1 ∧ x.toInt = -1))) → OK h' → un [10, 12, 24, 26, 28, 30, 32, 34, 36, 38, 40, 45, 46, 1501, 1804, 1901, 2101, 3301, 3501, 3701, 3901, 4101, 4301, 4501, 4701, 4901, 22010, 22011, 22012] h0 h' → Q r h') : uCall Mt (d + 48) 131 [(.inr (.inr (some 0))), (.inl a1)] h0 kc ks Q := by
  have l_m100 : ((-100) : Int32).toInt = -100 := by decide
  have l_m1 : ((-1) : Int32).toInt = -1 := by decide
  have l_0 : ((0) : Int32).toInt = 0 := by decide
  have l_1 : ((1) : Int32).toInt = 1 := by decide
  have l_10 : ((10) : Int32).toInt = 10 := by decide
  refine uc_ink [some (.inr (.inr (some 0))), some (.inl a1), none, none] mt_131 (Nat.le_of_ble_eq_true rfl) rfl ?_
  obtain ⟨f2, f3, f4, f5, hc1, k6⟩ := ok_5 hO0
  have t7 := fO_of (k := 1) hc1 rfl
  refine ur_ldA rfl rfl ?_
  refine ur_ldI rfl rfl ?_
  obtain ⟨hc8, k9⟩ := ok_0 hO0
  refine ur_inl rfl (rcv_of hc8) (Nat.le_of_ble_eq_true rfl) (Nat.le_of_ble_eq_true rfl) (sd_X11_textOf hO0 _ (fun w10 hr11 => ?_))
  obtain ⟨o12, rfl, k13, t14, t15⟩ := hr11
  show uRun _ (uCall Mt _) _ 5 (_, [(.inr (.inr o12))], _, _, _)
  refine ur_svAk [some (.inr (.inr (some 0))), some (.inl a1), some (.inr (.inr o12)), none] rfl rfl ?_
  refine ur_ldA rfl rfl ?_
  cases o12 with
  | none =>
    refine ur_nulN rfl ?_
    have t17 := t14 rfl
    refine ur_push rfl ?_
    exact ur_ret rfl rfl (hQ _ _ ⟨_, rfl, ⟨by omega, by omega⟩⟩ hO0 un.rf)
  | some r16 =>
    refine ur_nulS rfl ?_
    have k18 := k13 _ rfl
    have t19 := t15 _ rfl
    refine ur_ldA rfl rfl ?_
    refine ur_get rfl hc8 rfl ?_
    refine ur_ldA rfl rfl ?_
    refine ur_inl rfl (rcv_of hc1) (Nat.le_of_ble_eq_true rfl) (Nat.le_of_ble_eq_true rfl) (sd_X8_becomeText hO0 k18.2 (fun w20 h23 hr21 hO23 hv23 hp22 => ?_))
    have hu23 : un [10, 12, 24, 26, 28, 30, 32, 34, 36, 38, 40, 45, 46, 1501, 1804, 1901, 2101, 3301, 3501, 3701, 3901, 4101, 4301, 4501, 4701, 4901, 22010, 22011, 22012] h0 h23 := hv23.mono (by decide)
    obtain ⟨x24, rfl⟩ := hr21
    show uRun _ (uCall Mt _) _ 20 (_, [(.inl x24)], _, _, _)
    refine ur_svIk [some (.inr (.inr (some 0))), some (.inl a1), some (.inr (.inr (some r16))), some (.inl x24)] rfl rfl ?_
    refine ur_ldI rfl rfl ?_
    refine ur_push rfl ?_
    refine ur_if2 rfl (fun c25 => ?_) (fun c25 => ?_)
    · have t26 := eq_to c25
      refine ur_ldA rfl rfl ?_
      refine ur_get rfl (hv23.ko (n := 8) hc8 rfl (wid_f (by decide)) (by decide)) rfl ?_
      obtain ⟨f28, f29, hc27, k30⟩ := ok_41 hO23
      refine ur_inl rfl (rcv_of hc27) (Nat.le_of_ble_eq_true rfl) (Nat.le_of_ble_eq_true rfl) (sf_X7_forgetWeights hO23  (fun w31 h33 hr32 hO33 hv33 => ?_))
      have hu33 : un [10, 12, 24, 26, 28, 30, 32, 34, 36, 38, 40, 45, 46, 1501, 1804, 1901, 2101, 3301, 3501, 3701, 3901, 4101, 4301, 4501, 4701, 4901, 22010, 22011, 22012] h23 h33 := hv33.mono (by decide)
      subst hr32
      show uRun _ (uCall Mt _) _ 38 (_, [], _, _, _)
      refine ur_ldI rfl rfl ?_
      refine ur_if1 rfl (fun c34 => ?_) (fun c34 => ?_)
      · have t35 := ne_to c34
        refine ur_ldI rfl rfl ?_
        refine ur_push rfl ?_
        refine ur_if2 rfl (fun c36 => ?_) (fun c36 => ?_)
        · have t37 := lt_to c36
          refine ur_push rfl ?_
          obtain ⟨f39, f40, f41, f42, hc38, k43⟩ := ok_5 hO33
          have t44 := fO_of (k := 1) hc38 rfl
          have t45 := fO_keep (a := 5) (ci := 8) (n := 6) (k := 1) hO23 hO33 hv33 (by decide) rfl (by decide) rfl (by decide)
          exact ur_ret rfl rfl (hQ _ _ ⟨_, rfl, ⟨by omega, by omega⟩⟩ hO33 (hu23.tr hu33))
        · have t46 := lt_no c36
          refine ur_ldA rfl rfl ?_
          refine ur_get rfl (hv33.ko (n := 8) (hv23.ko (n := 8) hc8 rfl (wid_f (by decide)) (by decide)) rfl (wid_f (by decide)) (by decide)) rfl ?_
          refine ur_ldI rfl rfl ?_
          refine ur_push rfl ?_
          refine ur_binV rfl (fun x47 e48 => ?_)
          have z49 := any_r a1
          have t50 := ti_sub e48 (by omega) (by omega)
          obtain ⟨f52, f53, f54, f55, hc51, k56⟩ := ok_15 hO33
          have t57 := fO_keep (a := 5) (ci := 8) (n := 6) (k := 1) hO23 hO33 hv33 (by decide) rfl (by decide) rfl (by decide)
          refine ur_inl rfl (rcv_of hc51) (Nat.le_of_ble_eq_true rfl) (Nat.le_of_ble_eq_true rfl) (sf_X1_settleWordsOf hO33 _ (fun w58 h60 hr59 hO60 hv60 => ?_))
          have hu60 : un [10, 12, 24, 26, 28, 30, 32, 34, 36, 38, 40, 45, 46, 1501, 1804, 1901, 2101, 3301, 3501, 3701, 3901, 4101, 4301, 4501, 4701, 4901, 22010, 22011, 22012] h33 h60 := hv60.mono (by decide)
          subst hr59
          show uRun _ (uCall Mt _) _ 66 (_, [], _, _, _)
          refine ur_push rfl ?_
          obtain ⟨f62, f63, f64, f65, hc61, k66⟩ := ok_5 hO60
          have t67 := fO_of (k := 1) hc61 rfl
          have t68 := fO_keep (a := 5) (ci := 8) (n := 6) (k := 1) hO33 hO60 hv60 (by decide) rfl (by decide) rfl (by decide)
          exact ur_ret rfl rfl (hQ _ _ ⟨_, rfl, ⟨by omega, by omega⟩⟩ hO60 (hu23.tr (hu33.tr hu60)))
      · have t69 := ne_no c34
        refine ur_ldA rfl rfl ?_
        refine ur_get rfl (hv33.ko (n := 8) (hv23.ko (n := 8) hc8 rfl (wid_f (by decide)) (by decide)) rfl (wid_f (by decide)) (by decide)) rfl ?_
        obtain ⟨f71, hc70, k72⟩ := ok_8 hO33
        have t73 := fO_keep (a := 5) (ci := 8) (n := 6) (k := 1) hO23 hO33 hv33 (by decide) rfl (by decide) rfl (by decide)
        refine ur_inl rfl (rcv_of hc70) (Nat.le_of_ble_eq_true rfl) (Nat.le_of_ble_eq_true rfl) (sf_X5_forgetSights hO33  (fun w74 h76 hr75 hO76 hv76 => ?_))
        have hu76 : un [10, 12, 24, 26, 28, 30, 32, 34, 36, 38, 40, 45, 46, 1501, 1804, 1901, 2101, 3301, 3501, 3701, 3901, 4101, 4301, 4501, 4701, 4901, 22010, 22011, 22012] h33 h76 := hv76.mono (by decide)
        subst hr75
        show uRun _ (uCall Mt _) _ 49 (_, [], _, _, _)
        refine ur_ldI rfl rfl ?_
        refine ur_push rfl ?_
        refine ur_if2 rfl (fun c77 => ?_) (fun c77 => ?_)
        · have t78 := lt_to c77
          refine ur_push rfl ?_
          obtain ⟨f80, f81, f82, f83, hc79, k84⟩ := ok_5 hO76
          have t85 := fO_of (k := 1) hc79 rfl
          have t86 := fO_keep (a := 5) (ci := 8) (n := 6) (k := 1) hO33 hO76 hv76 (by decide) rfl (by decide) rfl (by decide)
          exact ur_ret rfl rfl (hQ _ _ ⟨_, rfl, ⟨by omega, by omega⟩⟩ hO76 (hu23.tr (hu33.tr hu76)))
        · have t87 := lt_no c77
          exfalso
          omega
    · have t88 := eq_no c25
      refine ur_push rfl ?_
      refine ur_ldI rfl rfl ?_
      refine ur_binV rfl (fun x89 e90 => ?_)
      have z91 := any_r x24
      obtain ⟨f93, f94, f95, f96, hc92, k97⟩ := ok_5 hO23
      have t98 := fO_of (k := 1) hc92 rfl
      exact ur_ret rfl rfl (hQ _ _ ⟨_, rfl, ⟨by omega, by omega⟩⟩ hO23 hu23)

set_option maxRecDepth 20000 in
set_option maxHeartbeats 4000000 in
theorem sd_X12_observed {d kc ks : Nat} {h0 : aH} {Q : Option aV → aH → Prop} (hO0 : OK h0) (a1 : Int32) (a2 : Int32) (hQ : ∀ r h', (∃ x : Int32, r = some (.inl x) ∧ (¬ ((0 ≤ a1.toInt ∧ a1.toInt ≤ 999999) ∧ (0 ≤ a2.toInt ∧ a2.toInt ≤ 359)) ∧ x.toInt = -1 ∧ fI h' 57 = fI h0 57 ∨ ((0 ≤ a1.toInt ∧ a1.toInt ≤ 999999) ∧ (0 ≤ a2.toInt ∧ a2.toInt ≤ 359)) ∧ 5 ≤ fI h0 57 ∧ x.toInt = -3 ∧ fI h' 57 = fI h0 57 ∨ ((0 ≤ a1.toInt ∧ a1.toInt ≤ 999999) ∧ (0 ≤ a2.toInt ∧ a2.toInt ≤ 359)) ∧ fI h0 57 < 5 ∧ x.toInt = fI h0 57 + 1 ∧ fI h' 57 = fI h0 57 + 1)) → OK h' → un [107, 108, 7957] h0 h' → Q r h') : uCall Mt (d + 3) 267 [(.inr (.inr (some 69))), (.inl a1), (.inl a2)] h0 kc ks Q := by
  have l_m3 : ((-3) : Int32).toInt = -3 := by decide
  have l_m1 : ((-1) : Int32).toInt = -1 := by decide
  have l_0 : ((0) : Int32).toInt = 0 := by decide
  have l_1 : ((1) : Int32).toInt = 1 := by decide
  have l_5 : ((5) : Int32).toInt = 5 := by decide
  have l_359 : ((359) : Int32).toInt = 359 := by decide
  have l_999999 : ((999999) : Int32).toInt = 999999 := by decide
  refine uc_ink [some (.inr (.inr (some 69))), some (.inl a1), some (.inl a2)] mt_267 (Nat.le_of_ble_eq_true rfl) rfl ?_
  obtain ⟨fs1, hc2⟩ := hO0.mod
  obtain ⟨f3, p4, t5⟩ := mf_57 hO0 hc2
  have t6 := fI_of hc2 p4
  refine ur_ldI rfl rfl ?_
  refine ur_callv rfl rfl (Nat.le_of_ble_eq_true rfl) (Nat.le_of_ble_eq_true rfl) rfl (sq_isDay _ _) ?_
  refine ur_eqB rfl (fun c9 => ?_) (fun c9 => ?_)
  · have t10 := wi_noL c9 l_0 l_999999
    refine ur_push rfl ?_
    exact ur_ret rfl rfl (hQ _ _ ⟨_, rfl, Or.inl ⟨by omega, by omega, by omega⟩⟩ hO0 un.rf)
  · have t11 := wi_toL c9 l_0 l_999999
    refine ur_ldI rfl rfl ?_
    refine ur_push rfl ?_
    refine ur_push rfl ?_
    refine ur_callv rfl rfl (Nat.le_of_ble_eq_true rfl) (Nat.le_of_ble_eq_true rfl) rfl (sp_in _ _ _ _ _) ?_
    refine ur_neB rfl (fun c14 => ?_) (fun c14 => ?_)
    · have t15 := wi_toL c14 l_0 l_359
      refine ur_ldA rfl rfl ?_
      refine ur_get rfl hc2 p4 ?_
      refine ur_push rfl ?_
      refine ur_if2 rfl (fun c16 => ?_) (fun c16 => ?_)
      · have t17 := ne_to c16
        refine ur_ldA rfl rfl ?_
        refine ur_get rfl hc2 (mf_58 hO0 hc2) ?_
        refine ur_ldA rfl rfl ?_
        refine ur_get rfl hc2 p4 ?_
        refine ur_ldI rfl rfl ?_
        obtain ⟨xs19, hc18, hn20, he21⟩ := hO0.int (hO0.fix 107 (by decide) rfl)
        refine ur_astV (W := [107, 108, 7957]) (m := 5) rfl hO0 hc18 (by decide) hn20 (by omega) (any_r _) (Or.inr (Or.inr (wid_fix (by decide) (by decide)))) (fun h24 hO24 hu24 d22 hc23 => ?_)
        refine ur_ldA rfl rfl ?_
        refine ur_get rfl ((d22 _ (by decide)).trans hc2) (mf_59 hO24 ((d22 _ (by decide)).trans hc2)) ?_
        refine ur_ldA rfl rfl ?_
        have t25 := fI_of ((d22 _ (by decide)).trans hc2) p4
        refine ur_get rfl ((d22 _ (by decide)).trans hc2) p4 ?_
        refine ur_ldI rfl rfl ?_
        obtain ⟨xs27, hc26, hn28, he29⟩ := hO24.int (hO24.fix 108 (by decide) rfl)
        refine ur_astV (W := [107, 108, 7957]) (m := 5) rfl hO24 hc26 (by decide) hn28 (by omega) (any_r _) (Or.inr (Or.inr (wid_fix (by decide) (by decide)))) (fun h32 hO32 hu32 d30 hc31 => ?_)
        refine ur_ldA rfl rfl ?_
        refine ur_dup rfl rfl ?_
        have t33 := fI_of ((d30 _ (by decide)).trans ((d22 _ (by decide)).trans hc2)) p4
        refine ur_get rfl ((d30 _ (by decide)).trans ((d22 _ (by decide)).trans hc2)) p4 ?_
        refine ur_push rfl ?_
        refine ur_binV rfl (fun x34 e35 => ?_)
        have z36 := any_r f3
        have t37 := ti_add e35 (by omega) (by omega)
        refine ur_putM (W := [107, 108, 7957]) rfl hO32 ((d30 _ (by decide)).trans ((d22 _ (by decide)).trans hc2)) (by decide) rfl (ms_57 (hO32.msh ((d30 _ (by decide)).trans ((d22 _ (by decide)).trans hc2))) (show 0 ≤ x34.toInt ∧ x34.toInt ≤ 5 by omega)) (Or.inr (by decide)) (fun h39 hO39 hu39 d38 hc40 => ?_)
        have t41 := fI_of hc40 (gs_eq p4)
        refine ur_ldA rfl rfl ?_
        refine ur_get rfl hc40 (gs_eq p4) ?_
        exact ur_ret rfl rfl (hQ _ _ ⟨_, rfl, Or.inr (Or.inr ⟨by omega, by omega, by omega, by omega⟩)⟩ hO39 (hu24.tr (hu32.tr hu39)))
      · have t42 := ne_no c16
        refine ur_push rfl ?_
        exact ur_ret rfl rfl (hQ _ _ ⟨_, rfl, Or.inr (Or.inl ⟨by omega, by omega, by omega, by omega⟩)⟩ hO0 un.rf)
    · have t43 := wi_noL c14 l_0 l_359
      refine ur_push rfl ?_
      exact ur_ret rfl rfl (hQ _ _ ⟨_, rfl, Or.inl ⟨by omega, by omega, by omega⟩⟩ hO0 un.rf)

set_option maxRecDepth 20000 in
set_option maxHeartbeats 4000000 in
theorem sd_X12_forget {d kc ks : Nat} {h0 : aH} {Q : Option aV → aH → Prop} (hO0 : OK h0)  (hQ : ∀ r h', (∃ x : Int32, r = some (.inl x) ∧ (x.toInt = fI h0 57 ∧ fI h' 57 = 0)) → OK h' → un [7957] h0 h' → Q r h') : uCall Mt (d + 1) 268 [(.inr (.inr (some 69)))] h0 kc ks Q := by
  have l_0 : ((0) : Int32).toInt = 0 := by decide
  refine uc_ink [some (.inr (.inr (some 69))), none] mt_268 (Nat.le_of_ble_eq_true rfl) rfl ?_
  obtain ⟨fs1, hc2⟩ := hO0.mod
  obtain ⟨f3, p4, t5⟩ := mf_57 hO0 hc2
  have t6 := fI_of hc2 p4
  refine ur_ldA rfl rfl ?_
  refine ur_get rfl hc2 p4 ?_
  refine ur_svIk [some (.inr (.inr (some 69))), some (.inl f3)] rfl rfl ?_
  refine ur_ldA rfl rfl ?_
  refine ur_push rfl ?_
  refine ur_putM (W := [7957]) rfl hO0 hc2 (by decide) rfl (ms_57 (hO0.msh hc2) (show 0 ≤ (0 : Int32).toInt ∧ (0 : Int32).toInt ≤ 5 by omega)) (Or.inr (by decide)) (fun h8 hO8 hu8 d7 hc9 => ?_)
  have t10 := fI_of hc9 (gs_eq p4)
  refine ur_ldI rfl rfl ?_
  exact ur_ret rfl rfl (hQ _ _ ⟨_, rfl, by omega⟩ hO8 hu8)

set_option maxRecDepth 20000 in
set_option maxHeartbeats 4000000 in
theorem sd_X12_watch {d kc ks : Nat} {h0 : aH} {Q : Option aV → aH → Prop} (hO0 : OK h0) (a1 : Int32) (a2 : Int32) (a3 : Int32) (hQ : ∀ r h', (∃ x : Int32, r = some (.inl x) ∧ (¬ ((0 ≤ a1.toInt ∧ a1.toInt ≤ 8) ∧ (0 ≤ a2.toInt ∧ a2.toInt ≤ 999999) ∧ (0 ≤ a3.toInt ∧ a3.toInt ≤ 999999) ∧ a2.toInt ≤ a3.toInt) ∧ x.toInt = -1 ∧ fI h' 34 = fI h0 34 ∨ ((0 ≤ a1.toInt ∧ a1.toInt ≤ 8) ∧ (0 ≤ a2.toInt ∧ a2.toInt ≤ 999999) ∧ (0 ≤ a3.toInt ∧ a3.toInt ≤ 999999) ∧ a2.toInt ≤ a3.toInt) ∧ 10 ≤ fI h0 34 ∧ x.toInt = -3 ∧ fI h' 34 = fI h0 34 ∨ ((0 ≤ a1.toInt ∧ a1.toInt ≤ 8) ∧ (0 ≤ a2.toInt ∧ a2.toInt ≤ 999999) ∧ (0 ≤ a3.toInt ∧ a3.toInt ≤ 999999) ∧ a2.toInt ≤ a3.toInt) ∧ fI h0 34 < 10 ∧ x.toInt = fI h0 34 + 1 ∧ fI h' 34 = fI h0 34 + 1)) → OK h' → un [93, 94, 95, 7934] h0 h' → Q r h') : uCall Mt (d + 3) 232 [(.inr (.inr (some 69))), (.inl a1), (.inl a2), (.inl a3)] h0 kc ks Q := by
  have l_m3 : ((-3) : Int32).toInt = -3 := by decide
  have l_m1 : ((-1) : Int32).toInt = -1 := by decide
  have l_0 : ((0) : Int32).toInt = 0 := by decide
  have l_1 : ((1) : Int32).toInt = 1 := by decide
  have l_8 : ((8) : Int32).toInt = 8 := by decide
  have l_10 : ((10) : Int32).toInt = 10 := by decide
  have l_999999 : ((999999) : Int32).toInt = 999999 := by decide
  refine uc_ink [some (.inr (.inr (some 69))), some (.inl a1), some (.inl a2), some (.inl a3)] mt_232 (Nat.le_of_ble_eq_true rfl) rfl ?_
  obtain ⟨fs1, hc2⟩ := hO0.mod
  obtain ⟨f3, p4, t5⟩ := mf_34 hO0 hc2
  have t6 := fI_of hc2 p4
  refine ur_ldI rfl rfl ?_
  refine ur_callv rfl rfl (Nat.le_of_ble_eq_true rfl) (Nat.le_of_ble_eq_true rfl) rfl (sq_isPpl _ _) ?_
  refine ur_eqB rfl (fun c9 => ?_) (fun c9 => ?_)
  · have t10 := wi_noL c9 l_0 l_8
    refine ur_push rfl ?_
    exact ur_ret rfl rfl (hQ _ _ ⟨_, rfl, Or.inl ⟨by omega, by omega, by omega⟩⟩ hO0 un.rf)
  · have t11 := wi_toL c9 l_0 l_8
    refine ur_ldI rfl rfl ?_
    refine ur_callv rfl rfl (Nat.le_of_ble_eq_true rfl) (Nat.le_of_ble_eq_true rfl) rfl (sq_isDay _ _) ?_
    refine ur_eqB rfl (fun c14 => ?_) (fun c14 => ?_)
    · have t15 := wi_noL c14 l_0 l_999999
      refine ur_push rfl ?_
      exact ur_ret rfl rfl (hQ _ _ ⟨_, rfl, Or.inl ⟨by omega, by omega, by omega⟩⟩ hO0 un.rf)
    · have t16 := wi_toL c14 l_0 l_999999
      refine ur_ldI rfl rfl ?_
      refine ur_callv rfl rfl (Nat.le_of_ble_eq_true rfl) (Nat.le_of_ble_eq_true rfl) rfl (sq_isDay _ _) ?_
      refine ur_eqB rfl (fun c19 => ?_) (fun c19 => ?_)
      · have t20 := wi_noL c19 l_0 l_999999
        refine ur_push rfl ?_
        exact ur_ret rfl rfl (hQ _ _ ⟨_, rfl, Or.inl ⟨by omega, by omega, by omega⟩⟩ hO0 un.rf)
      · have t21 := wi_toL c19 l_0 l_999999
        refine ur_ldI rfl rfl ?_
        refine ur_ldI rfl rfl ?_
        have z22 := any_r a2
        have z23 := any_r a3
        refine ur_if2 rfl (fun c24 => ?_) (fun c24 => ?_)
        · have t25 := le_to c24
          refine ur_ldA rfl rfl ?_
          refine ur_get rfl hc2 p4 ?_
          refine ur_push rfl ?_
          refine ur_if2 rfl (fun c26 => ?_) (fun c26 => ?_)
          · have t27 := ne_to c26
            refine ur_ldA rfl rfl ?_
            refine ur_get rfl hc2 (mf_35 hO0 hc2) ?_
            refine ur_ldA rfl rfl ?_
            refine ur_get rfl hc2 p4 ?_
            refine ur_ldI rfl rfl ?_
            obtain ⟨xs29, hc28, hn30, he31⟩ := hO0.int (hO0.fix 93 (by decide) rfl)
            refine ur_astV (W := [93, 94, 95, 7934]) (m := 10) rfl hO0 hc28 (by decide) hn30 (by omega) (any_r _) (Or.inr (Or.inr (wid_fix (by decide) (by decide)))) (fun h34 hO34 hu34 d32 hc33 => ?_)
            refine ur_ldA rfl rfl ?_
            refine ur_get rfl ((d32 _ (by decide)).trans hc2) (mf_36 hO34 ((d32 _ (by decide)).trans hc2)) ?_
            refine ur_ldA rfl rfl ?_
            have t35 := fI_of ((d32 _ (by decide)).trans hc2) p4
            refine ur_get rfl ((d32 _ (by decide)).trans hc2) p4 ?_
            refine ur_ldI rfl rfl ?_
            obtain ⟨xs37, hc36, hn38, he39⟩ := hO34.int (hO34.fix 94 (by decide) rfl)
            refine ur_astV (W := [93, 94, 95, 7934]) (m := 10) rfl hO34 hc36 (by decide) hn38 (by omega) (any_r _) (Or.inr (Or.inr (wid_fix (by decide) (by decide)))) (fun h42 hO42 hu42 d40 hc41 => ?_)
            refine ur_ldA rfl rfl ?_
            refine ur_get rfl ((d40 _ (by decide)).trans ((d32 _ (by decide)).trans hc2)) (mf_37 hO42 ((d40 _ (by decide)).trans ((d32 _ (by decide)).trans hc2))) ?_
            refine ur_ldA rfl rfl ?_
            have t43 := fI_of ((d40 _ (by decide)).trans ((d32 _ (by decide)).trans hc2)) p4
            refine ur_get rfl ((d40 _ (by decide)).trans ((d32 _ (by decide)).trans hc2)) p4 ?_
            refine ur_ldI rfl rfl ?_
            obtain ⟨xs45, hc44, hn46, he47⟩ := hO42.int (hO42.fix 95 (by decide) rfl)
            refine ur_astV (W := [93, 94, 95, 7934]) (m := 10) rfl hO42 hc44 (by decide) hn46 (by omega) (by show 0 ≤ a3.toInt ∧ a3.toInt ≤ 999999; omega) (Or.inr (Or.inr (wid_fix (by decide) (by decide)))) (fun h50 hO50 hu50 d48 hc49 => ?_)
            refine ur_ldA rfl rfl ?_
            refine ur_dup rfl rfl ?_
            have hc51 := ((d48 _ (by decide)).trans ((d40 _ (by decide)).trans ((d32 _ (by decide)).trans hc2)))
            have t52 := fI_of hc51 p4
            refine ur_get rfl hc51 p4 ?_
            refine ur_push rfl ?_
            refine ur_binV rfl (fun x53 e54 => ?_)
            have z55 := any_r f3
            have t56 := ti_add e54 (by omega) (by omega)
            refine ur_putM (W := [93, 94, 95, 7934]) rfl hO50 hc51 (by decide) rfl (ms_34 (hO50.msh hc51) (show 0 ≤ x53.toInt ∧ x53.toInt ≤ 10 by omega)) (Or.inr (by decide)) (fun h58 hO58 hu58 d57 hc59 => ?_)
            have t60 := fI_of hc59 (gs_eq p4)
            refine ur_ldA rfl rfl ?_
            refine ur_get rfl hc59 (gs_eq p4) ?_
            exact ur_ret rfl rfl (hQ _ _ ⟨_, rfl, Or.inr (Or.inr ⟨by omega, by omega, by omega, by omega⟩)⟩ hO58 (hu34.tr (hu42.tr (hu50.tr hu58))))
          · have t61 := ne_no c26
            refine ur_push rfl ?_
            exact ur_ret rfl rfl (hQ _ _ ⟨_, rfl, Or.inr (Or.inl ⟨by omega, by omega, by omega, by omega⟩)⟩ hO0 un.rf)
        · have t62 := le_no c24
          refine ur_push rfl ?_
          exact ur_ret rfl rfl (hQ _ _ ⟨_, rfl, Or.inl ⟨by omega, by omega, by omega⟩⟩ hO0 un.rf)

set_option maxRecDepth 20000 in
set_option maxHeartbeats 4000000 in
theorem sd_X12_great {d kc ks : Nat} {h0 : aH} {Q : Option aV → aH → Prop} (hO0 : OK h0) (hX0 : SX h0) (a1 : Int32) (a2 : Int32) (hQ : ∀ r h', (∃ x : Int32, r = some (.inl x) ∧ (¬ ((100 ≤ a1.toInt ∧ a1.toInt ≤ 20000) ∧ (0 ≤ a2.toInt ∧ a2.toInt ≤ 60)) ∧ x.toInt = -1 ∧ fI h' 1 = fI h0 1 ∨ ((100 ≤ a1.toInt ∧ a1.toInt ≤ 20000) ∧ (0 ≤ a2.toInt ∧ a2.toInt ≤ 60)) ∧ 4 ≤ fI h0 1 ∧ x.toInt = -3 ∧ fI h' 1 = fI h0 1 ∨ ((100 ≤ a1.toInt ∧ a1.toInt ≤ 20000) ∧ (0 ≤ a2.toInt ∧ a2.toInt ≤ 60)) ∧ fI h0 1 < 4 ∧ x.toInt = fI h0 1 + 0 ∧ fI h' 1 = fI h0 1 + 1)) → OK h' → un [70, 71, 81, 7901] h0 h' → (SX h') → Q r h') : uCall Mt (d + 2) 191 [(.inr (.inr (some 69))), (.inl a1), (.inl a2)] h0 kc ks Q := by
  have l_m3 : ((-3) : Int32).toInt = -3 := by decide
  have l_m1 : ((-1) : Int32).toInt = -1 := by decide
  have l_0 : ((0) : Int32).toInt = 0 := by decide
  have l_1 : ((1) : Int32).toInt = 1 := by decide
  have l_4 : ((4) : Int32).toInt = 4 := by decide
  have l_12 : ((12) : Int32).toInt = 12 := by decide
  have l_60 : ((60) : Int32).toInt = 60 := by decide
  have l_100 : ((100) : Int32).toInt = 100 := by decide
  have l_20000 : ((20000) : Int32).toInt = 20000 := by decide
  refine uc_ink [some (.inr (.inr (some 69))), some (.inl a1), some (.inl a2), none] mt_191 (Nat.le_of_ble_eq_true rfl) rfl ?_
  obtain ⟨fs1, hc2⟩ := hO0.mod
  obtain ⟨f3, p4, t5⟩ := mf_1 hO0 hc2
  have t6 := fI_of hc2 p4
  refine ur_ldI rfl rfl ?_
  refine ur_push rfl ?_
  refine ur_push rfl ?_
  refine ur_callv rfl rfl (Nat.le_of_ble_eq_true rfl) (Nat.le_of_ble_eq_true rfl) rfl (sp_in _ _ _ _ _) ?_
  refine ur_eqB rfl (fun c9 => ?_) (fun c9 => ?_)
  · have t10 := wi_noL c9 l_100 l_20000
    refine ur_push rfl ?_
    exact ur_ret rfl rfl (hQ _ _ ⟨_, rfl, Or.inl ⟨by omega, by omega, by omega⟩⟩ hO0 un.rf hX0)
  · have t11 := wi_toL c9 l_100 l_20000
    refine ur_ldI rfl rfl ?_
    refine ur_push rfl ?_
    refine ur_push rfl ?_
    refine ur_callv rfl rfl (Nat.le_of_ble_eq_true rfl) (Nat.le_of_ble_eq_true rfl) rfl (sp_in _ _ _ _ _) ?_
    refine ur_neB rfl (fun c14 => ?_) (fun c14 => ?_)
    · have t15 := wi_toL c14 l_0 l_60
      refine ur_ldA rfl rfl ?_
      refine ur_get rfl hc2 p4 ?_
      refine ur_push rfl ?_
      refine ur_if2 rfl (fun c16 => ?_) (fun c16 => ?_)
      · have t17 := ne_to c16
        refine ur_ldA rfl rfl ?_
        refine ur_get rfl hc2 (mf_2 hO0 hc2) ?_
        refine ur_ldA rfl rfl ?_
        refine ur_get rfl hc2 p4 ?_
        refine ur_ldI rfl rfl ?_
        obtain ⟨xs19, hc18, hn20, he21⟩ := hO0.int (hO0.fix 70 (by decide) rfl)
        refine ur_astV (W := [70]) (m := 4) rfl hO0 hc18 (by decide) hn20 (by omega) (any_r _) (Or.inr (Or.inr (wid_fix (by decide) (by decide)))) (fun h24 hO24 hv24 d22 hc23 => ?_)
        have hu24 : un [70, 71, 81, 7901] h0 h24 := hv24.mono (by decide)
        refine ur_ldA rfl rfl ?_
        refine ur_get rfl ((d22 _ (by decide)).trans hc2) (mf_3 hO24 ((d22 _ (by decide)).trans hc2)) ?_
        refine ur_ldA rfl rfl ?_
        have t25 := fI_of ((d22 _ (by decide)).trans hc2) p4
        refine ur_get rfl ((d22 _ (by decide)).trans hc2) p4 ?_
        refine ur_ldI rfl rfl ?_
        obtain ⟨xs27, hc26, hn28, he29⟩ := hO24.int (hO24.fix 71 (by decide) rfl)
        refine ur_astV (W := [71]) (m := 4) rfl hO24 hc26 (by decide) hn28 (by omega) (by show 0 ≤ a2.toInt ∧ a2.toInt ≤ 60; omega) (Or.inr (Or.inr (wid_fix (by decide) (by decide)))) (fun h32 hO32 hv32 d30 hc31 => ?_)
        have hu32 : un [70, 71, 81, 7901] h24 h32 := hv32.mono (by decide)
        refine ur_ldA rfl rfl ?_
        refine ur_dup rfl rfl ?_
        have t33 := fI_of ((d30 _ (by decide)).trans ((d22 _ (by decide)).trans hc2)) p4
        refine ur_get rfl ((d30 _ (by decide)).trans ((d22 _ (by decide)).trans hc2)) p4 ?_
        refine ur_push rfl ?_
        refine ur_binV rfl (fun x34 e35 => ?_)
        have z36 := any_r f3
        have t37 := ti_add e35 (by omega) (by omega)
        refine ur_putM (W := [7901]) rfl hO32 ((d30 _ (by decide)).trans ((d22 _ (by decide)).trans hc2)) (by decide) rfl (ms_1 (hO32.msh ((d30 _ (by decide)).trans ((d22 _ (by decide)).trans hc2))) (show 0 ≤ x34.toInt ∧ x34.toInt ≤ 4 by omega)) (Or.inr (by decide)) (fun h39 hO39 hv39 d38 hc40 => ?_)
        have hu39 : un [70, 71, 81, 7901] h32 h39 := hv39.mono (by decide)
        have t41 := fI_of hc40 (gs_eq p4)
        refine ur_push rfl ?_
        refine ur_svIk [some (.inr (.inr (some 69))), some (.inl a1), some (.inl a2), some (.inl 0)] rfl rfl ?_
        have L43 : ∀ (m44 : Nat) (x42 : Int32) (h46 : aH) , OK h46 → un [70, 71, 81, 7901] h39 h46 → ((0 ≤ x42.toInt ∧ x42.toInt ≤ 12) ∧ fI h46 1 = fI h0 1 + 1) → (GX h46) → ((13 - x42.toInt).toNat) < m44 → uRun oX12_great (uCall Mt (d + 1)) Q 67 ([some (.inr (.inr (some 69))), some (.inl a1), some (.inl a2), some (.inl x42)], [], h46, kc, ks) := by
          intro m44
          induction m44 with
          | zero => intro x42 h46 hO46 hu46 iv48 px47 mm49; omega
          | succ m44 ih45 =>
            intro x42 h46 hO46 hu46 iv48 px47 mm49
            obtain ⟨fs50, hc51⟩ := hO46.mod
            obtain ⟨f52, p53, t54⟩ := mf_1 hO46 hc51
            have t55 := fI_of hc51 p53
            refine ur_ldI rfl rfl ?_
            refine ur_push rfl ?_
            refine ur_if2 rfl (fun c56 => ?_) (fun c56 => ?_)
            · have t57 := le_to c56
              refine ur_ldA rfl rfl ?_
              refine ur_get rfl hc51 p53 ?_
              refine ur_push rfl ?_
              refine ur_binV rfl (fun x58 e59 => ?_)
              have z60 := any_r f52
              have t61 := ti_sub e59 (by omega) (by omega)
              exact ur_ret rfl rfl (hQ _ _ ⟨_, rfl, Or.inr (Or.inr ⟨by omega, by omega, by omega, by omega⟩)⟩ hO46 (hu24.tr (hu32.tr (hu39.tr hu46))) ⟨px47, hX0.2.1.un hO0 hO46 (hu24.tr (hu32.tr (hu39.tr hu46))) (by decide) (by decide), hX0.2.2.1.un hO0 hO46 (hu24.tr (hu32.tr (hu39.tr hu46))) (by decide) (by decide), hX0.2.2.2.1.un hO0 hO46 (hu24.tr (hu32.tr (hu39.tr hu46))) (by decide) (by decide) (by decide), hX0.2.2.2.2.un hO0 (hu24.tr (hu32.tr (hu39.tr hu46))) (by decide)⟩)
            · have t62 := le_no c56
              refine ur_ldA rfl rfl ?_
              refine ur_get rfl hc51 (mf_14 hO46 hc51) ?_
              refine ur_ldI rfl rfl ?_
              refine ur_push rfl ?_
              obtain ⟨xs64, hc63, hn65, he66⟩ := hO46.boo (hO46.fix 81 (by decide) rfl)
              refine ur_astV (W := [81]) (m := 12) rfl hO46 hc63 (by decide) hn65 (by omega) (any_r _) (Or.inr (Or.inr (wid_fix (by decide) (by decide)))) (fun h69 hO69 hv69 d67 hc68 => ?_)
              have hu69 : un [70, 71, 81, 7901] h46 h69 := hv69.mono (by decide)
              refine ur_incV (fun z => [some (.inr (.inr (some 69))), some (.inl a1), some (.inl a2), some (.inl z)]) rfl rfl (fun _ => rfl) (fun x70 e71 => ?_)
              have z72 := any_r x42
              have t73 := ti_add e71 (by omega) (by omega)
              refine ur_go rfl ?_
              have t74 := fI_of ((d67 _ (by decide)).trans hc51) p53
              have z75 := any_r x70
              exact ih45 x70 _ hO69 (hu46.tr hu69) (by omega) (px47.cong (d67 _ (by decide)) (d67 _ (by decide))) (by omega)
        exact L43 _ 0 _ hO39 un.rf (by omega) (GX.push (j := f3) (x := a1) hX0.1 hc18 ((d38 _ (by decide)).trans ((d30 _ (by decide)).trans hc23)) (by omega) (by omega) (by omega) (by omega)) (Nat.lt_succ_self _)
      · have t76 := ne_no c16
        refine ur_push rfl ?_
        exact ur_ret rfl rfl (hQ _ _ ⟨_, rfl, Or.inr (Or.inl ⟨by omega, by omega, by omega, by omega⟩)⟩ hO0 un.rf hX0)
    · have t77 := wi_noL c14 l_0 l_60
      refine ur_push rfl ?_
      exact ur_ret rfl rfl (hQ _ _ ⟨_, rfl, Or.inl ⟨by omega, by omega, by omega⟩⟩ hO0 un.rf hX0)

set_option maxRecDepth 20000 in
set_option maxHeartbeats 4000000 in
theorem sd_X12_feed {d kc ks : Nat} {h0 : aH} {Q : Option aV → aH → Prop} (hO0 : OK h0) (a1 : Int32) (a2 : Int32) (hQ : ∀ r h', (∃ x : Int32, r = some (.inl x) ∧ (¬ (1 ≤ a1.toInt ∧ a1.toInt ≤ 4) ∧ x.toInt = -1 ∧ fI h' 19 = fI h0 19 ∨ (1 ≤ a1.toInt ∧ a1.toInt ≤ 4) ∧ 120 < fI h0 19 + a1.toInt ∧ x.toInt = -3 ∧ fI h' 19 = fI h0 19 ∨ (1 ≤ a1.toInt ∧ a1.toInt ≤ 4) ∧ fI h0 19 + a1.toInt ≤ 120 ∧ x.toInt = fI h0 19 + a1.toInt ∧ fI h' 19 = fI h0 19 + a1.toInt)) → OK h' → un [82, 7919] h0 h' → Q r h') : uCall Mt (d + 2) 212 [(.inr (.inr (some 69))), (.inl a1), (.inl a2)] h0 kc ks Q := by
  have l_m3 : ((-3) : Int32).toInt = -3 := by decide
  have l_m1 : ((-1) : Int32).toInt = -1 := by decide
  have l_0 : ((0) : Int32).toInt = 0 := by decide
  have l_1 : ((1) : Int32).toInt = 1 := by decide
  have l_4 : ((4) : Int32).toInt = 4 := by decide
  have l_8 : ((8) : Int32).toInt = 8 := by decide
  have l_120 : ((120) : Int32).toInt = 120 := by decide
  refine uc_ink [some (.inr (.inr (some 69))), some (.inl a1), some (.inl a2), none] mt_212 (Nat.le_of_ble_eq_true rfl) rfl ?_
  obtain ⟨fs1, hc2⟩ := hO0.mod
  obtain ⟨f3, p4, t5⟩ := mf_19 hO0 hc2
  have t6 := fI_of hc2 p4
  refine ur_ldI rfl rfl ?_
  refine ur_push rfl ?_
  refine ur_push rfl ?_
  refine ur_callv rfl rfl (Nat.le_of_ble_eq_true rfl) (Nat.le_of_ble_eq_true rfl) rfl (sp_in _ _ _ _ _) ?_
  refine ur_neB rfl (fun c9 => ?_) (fun c9 => ?_)
  · have t10 := wi_toL c9 l_1 l_4
    refine ur_ldA rfl rfl ?_
    refine ur_get rfl hc2 p4 ?_
    refine ur_ldI rfl rfl ?_
    refine ur_binV rfl (fun x11 e12 => ?_)
    have z13 := any_r f3
    have z14 := any_r a1
    have t15 := ti_add e12 (by omega) (by omega)
    refine ur_push rfl ?_
    refine ur_if2 rfl (fun c16 => ?_) (fun c16 => ?_)
    · have t17 := le_to c16
      refine ur_push rfl ?_
      refine ur_svIk [some (.inr (.inr (some 69))), some (.inl a1), some (.inl a2), some (.inl 0)] rfl rfl ?_
      have L19 : ∀ (m20 : Nat) (x18 : Int32) (h22 : aH) , OK h22 → un [82, 7919] h0 h22 → ((0 ≤ x18.toInt ∧ x18.toInt ≤ 4) ∧ fI h22 19 = fI h0 19 + x18.toInt ∧ x18.toInt ≤ a1.toInt) → ((5 - x18.toInt).toNat) < m20 → uRun oX12_feed (uCall Mt (d + 1)) Q 27 ([some (.inr (.inr (some 69))), some (.inl a1), some (.inl a2), some (.inl x18)], [], h22, kc, ks) := by
        intro m20
        induction m20 with
        | zero => intro x18 h22 hO22 hu22 iv23 mm24; omega
        | succ m20 ih21 =>
          intro x18 h22 hO22 hu22 iv23 mm24
          refine ur_ldI rfl rfl ?_
          refine ur_ldI rfl rfl ?_
          have z25 := any_r x18
          refine ur_if2 rfl (fun c26 => ?_) (fun c26 => ?_)
          · have t27 := le_to c26
            refine ur_ldA rfl rfl ?_
            obtain ⟨fs28, hc29⟩ := hO22.mod
            obtain ⟨f30, p31, t32⟩ := mf_19 hO22 hc29
            have t33 := fI_of hc29 p31
            refine ur_get rfl hc29 p31 ?_
            exact ur_ret rfl rfl (hQ _ _ ⟨_, rfl, Or.inr (Or.inr ⟨by omega, by omega, by omega, by omega⟩)⟩ hO22 hu22)
          · have t34 := le_no c26
            refine ur_ldA rfl rfl ?_
            obtain ⟨fs35, hc36⟩ := hO22.mod
            refine ur_get rfl hc36 (mf_18 hO22 hc36) ?_
            refine ur_ldA rfl rfl ?_
            obtain ⟨f37, p38, t39⟩ := mf_19 hO22 hc36
            have t40 := fI_of hc36 p38
            refine ur_get rfl hc36 p38 ?_
            refine ur_ldI rfl rfl ?_
            refine ur_push rfl ?_
            refine ur_ldI rfl rfl ?_
            refine ur_binV rfl (fun x41 e42 => ?_)
            have t43 := ti_mulR e42 l_8 (by omega) (by omega)
            refine ur_binV rfl (fun x44 e45 => ?_)
            have z46 := any_r a2
            have z47 := any_r x41
            refine ur_unV rfl (fun x48 e49 => ?_)
            obtain ⟨xs51, hc50, hn52, he53⟩ := hO22.byt (hO22.fix 82 (by decide) rfl)
            refine ur_astV (W := [82, 7919]) (m := 120) rfl hO22 hc50 (by decide) hn52 (by omega) (any_r _) (Or.inr (Or.inr (wid_fix (by decide) (by decide)))) (fun h56 hO56 hu56 d54 hc55 => ?_)
            refine ur_ldA rfl rfl ?_
            refine ur_dup rfl rfl ?_
            have t57 := fI_of ((d54 _ (by decide)).trans hc36) p38
            refine ur_get rfl ((d54 _ (by decide)).trans hc36) p38 ?_
            refine ur_push rfl ?_
            refine ur_binV rfl (fun x58 e59 => ?_)
            have z60 := any_r f37
            have t61 := ti_add e59 (by omega) (by omega)
            refine ur_putM (W := [82, 7919]) rfl hO56 ((d54 _ (by decide)).trans hc36) (by decide) rfl (ms_19 (hO56.msh ((d54 _ (by decide)).trans hc36)) (show 0 ≤ x58.toInt ∧ x58.toInt ≤ 120 by omega)) (Or.inr (by decide)) (fun h63 hO63 hu63 d62 hc64 => ?_)
            have t65 := fI_of hc64 (gs_eq p38)
            refine ur_incV (fun z => [some (.inr (.inr (some 69))), some (.inl a1), some (.inl a2), some (.inl z)]) rfl rfl (fun _ => rfl) (fun x66 e67 => ?_)
            have t68 := ti_add e67 (by omega) (by omega)
            refine ur_go rfl ?_
            have z69 := any_r x66
            exact ih21 x66 _ hO63 (hu22.tr (hu56.tr hu63)) (by omega) (by omega)
      exact L19 _ 0 _ hO0 un.rf (by omega) (Nat.lt_succ_self _)
    · have t70 := le_no c16
      refine ur_push rfl ?_
      exact ur_ret rfl rfl (hQ _ _ ⟨_, rfl, Or.inr (Or.inl ⟨by omega, by omega, by omega, by omega⟩)⟩ hO0 un.rf)
  · have t71 := wi_noL c9 l_1 l_4
    refine ur_push rfl ?_
    exact ur_ret rfl rfl (hQ _ _ ⟨_, rfl, Or.inl ⟨by omega, by omega, by omega⟩⟩ hO0 un.rf)

set_option maxRecDepth 20000 in
set_option maxHeartbeats 4000000 in
theorem sd_X12_text {d kc ks : Nat} {h0 : aH} {Q : Option aV → aH → Prop} (hO0 : OK h0) (hX0 : SX h0) (a1 : Int32) (hQ : ∀ r h', (∃ x : Int32, r = some (.inl x) ∧ (((0 ≤ a1.toInt ∧ a1.toInt ≤ 1 ∨ 10 ≤ a1.toInt ∧ a1.toInt ≤ 18) → fI h' 19 = 0) ∧ (¬ (0 ≤ a1.toInt ∧ a1.toInt ≤ 1 ∨ 10 ≤ a1.toInt ∧ a1.toInt ≤ 18) → fI h' 19 = fI h0 19 ∧ x.toInt = -1))) → OK h' → un [83, 84, 85, 86, 87, 7919] h0 h' → (SX h') → Q r h') : uCall Mt (d + 47) 227 [(.inr (.inr (some 69))), (.inl a1)] h0 kc ks Q := by
  have l_m100 : ((-100) : Int32).toInt = -100 := by decide
  have l_m1 : ((-1) : Int32).toInt = -1 := by decide
  have l_0 : ((0) : Int32).toInt = 0 := by decide
  have l_1 : ((1) : Int32).toInt = 1 := by decide
  have l_10 : ((10) : Int32).toInt = 10 := by decide
  have l_11 : ((11) : Int32).toInt = 11 := by decide
  have l_18 : ((18) : Int32).toInt = 18 := by decide
  have l_59 : ((59) : Int32).toInt = 59 := by decide
  have l_61 : ((61) : Int32).toInt = 61 := by decide
  have l_130 : ((130) : Int32).toInt = 130 := by decide
  have l_671 : ((671) : Int32).toInt = 671 := by decide
  have l_1430 : ((1430) : Int32).toInt = 1430 := by decide
  refine uc_ink [some (.inr (.inr (some 69))), some (.inl a1), none, none] mt_227 (Nat.le_of_ble_eq_true rfl) rfl ?_
  obtain ⟨fs1, hc2⟩ := hO0.mod
  obtain ⟨f3, p4, t5⟩ := mf_19 hO0 hc2
  have t6 := fI_of hc2 p4
  obtain ⟨f7, p8⟩ := mf_20 hO0 hc2
  have t9 := fI_of hc2 p8
  obtain ⟨f10, p11⟩ := mf_21 hO0 hc2
  have t12 := fI_of hc2 p11
  obtain ⟨f13, p14⟩ := mf_22 hO0 hc2
  have t15 := fI_of hc2 p14
  obtain ⟨f16, p17, t18⟩ := mf_23 hO0 hc2
  have t19 := fI_of hc2 p17
  refine ur_ldI rfl rfl ?_
  refine ur_push rfl ?_
  refine ur_push rfl ?_
  refine ur_callv rfl rfl (Nat.le_of_ble_eq_true rfl) (Nat.le_of_ble_eq_true rfl) rfl (sp_in _ _ _ _ _) ?_
  refine ur_neB rfl (fun c22 => ?_) (fun c22 => ?_)
  · have t23 := wi_toL c22 l_0 l_1
    refine ur_ldA rfl rfl ?_
    refine ur_push rfl ?_
    refine ur_putM (W := []) rfl hO0 hc2 (by decide) rfl (ms_20 (hO0.msh hc2)) (Or.inl rfl) (fun h25 hO25 hv25 d24 hc26 => ?_)
    have hu25 : un [83, 84, 85, 86, 87, 7919] h0 h25 := hv25.mono (by decide)
    have t27 := fI_of hc26 (gs_ne (k := 20) (v := .inl 0) p4 (by decide))
    have t28 := fI_of hc26 (gs_eq (v := .inl 0) p8)
    have t29 := fI_of hc26 (gs_ne (k := 20) (v := .inl 0) p11 (by decide))
    have t30 := fI_of hc26 (gs_ne (k := 20) (v := .inl 0) p14 (by decide))
    have t31 := fI_of hc26 (gs_ne (k := 20) (v := .inl 0) p17 (by decide))
    refine ur_ldA rfl rfl ?_
    refine ur_push rfl ?_
    refine ur_putM (W := []) rfl hO25 hc26 (by decide) rfl (ms_21 (hO25.msh hc26)) (Or.inl rfl) (fun h33 hO33 hv33 d32 hc34 => ?_)
    have hu33 : un [83, 84, 85, 86, 87, 7919] h25 h33 := hv33.mono (by decide)
    have p35 := (gs_ne (k := 21) (v := .inl (-1)) (gs_ne (k := 20) (v := .inl 0) p4 (by decide)) (by decide))
    have p36 := (gs_ne (k := 21) (v := .inl (-1)) (gs_ne (k := 20) (v := .inl 0) p14 (by decide)) (by decide))
    have p37 := (gs_ne (k := 21) (v := .inl (-1)) (gs_ne (k := 20) (v := .inl 0) p17 (by decide)) (by decide))
    have t38 := fI_of hc34 p35
    have t39 := fI_of hc34 (gs_ne (k := 21) (v := .inl (-1)) (gs_eq (v := .inl 0) p8) (by decide))
    have t40 := fI_of hc34 (gs_eq (v := .inl (-1)) (gs_ne (k := 20) (v := .inl 0) p11 (by decide)))
    have t41 := fI_of hc34 p36
    have t42 := fI_of hc34 p37
    refine ur_ldA rfl rfl ?_
    refine ur_push rfl ?_
    refine ur_putM (W := []) rfl hO33 hc34 (by decide) rfl (ms_22 (hO33.msh hc34)) (Or.inl rfl) (fun h44 hO44 hv44 d43 hc45 => ?_)
    have hu44 : un [83, 84, 85, 86, 87, 7919] h33 h44 := hv44.mono (by decide)
    have p46 := (gs_ne (k := 22) (v := .inl 0) (gs_ne (k := 21) (v := .inl (-1)) (gs_eq (v := .inl 0) p8) (by decide)) (by decide))
    have p47 := (gs_ne (k := 22) (v := .inl 0) (gs_eq (v := .inl (-1)) (gs_ne (k := 20) (v := .inl 0) p11 (by decide))) (by decide))
    have t48 := fI_of hc45 (gs_ne (k := 22) (v := .inl 0) p35 (by decide))
    have t49 := fI_of hc45 p46
    have t50 := fI_of hc45 p47
    have t51 := fI_of hc45 (gs_eq (v := .inl 0) p36)
    have t52 := fI_of hc45 (gs_ne (k := 22) (v := .inl 0) p37 (by decide))
    refine ur_ldA rfl rfl ?_
    refine ur_push rfl ?_
    refine ur_putM (W := []) rfl hO44 hc45 (by decide) rfl (ms_23 (hO44.msh hc45) (show 0 ≤ (0 : Int32).toInt ∧ (0 : Int32).toInt ≤ 130 by omega)) (Or.inl rfl) (fun h54 hO54 hv54 d53 hc55 => ?_)
    have hu54 : un [83, 84, 85, 86, 87, 7919] h44 h54 := hv54.mono (by decide)
    have p56 := (gs_ne (k := 23) (v := .inl 0) (gs_ne (k := 22) (v := .inl 0) p35 (by decide)) (by decide))
    have t57 := fI_of hc55 p56
    have t58 := fI_of hc55 (gs_ne (k := 23) (v := .inl 0) p46 (by decide))
    have t59 := fI_of hc55 (gs_ne (k := 23) (v := .inl 0) p47 (by decide))
    have t60 := fI_of hc55 (gs_ne (k := 23) (v := .inl 0) (gs_eq (v := .inl 0) p36) (by decide))
    have t61 := fI_of hc55 (gs_eq (v := .inl 0) (gs_ne (k := 22) (v := .inl 0) p37 (by decide)))
    refine ur_ldA rfl rfl ?_
    refine ur_get rfl hc55 (mf_26 hO54 hc55) ?_
    refine ur_push rfl ?_
    refine ur_push rfl ?_
    obtain ⟨xs63, hc62, hn64, he65⟩ := hO54.int (hO54.fix 85 (by decide) rfl)
    refine ur_astV (W := [85]) (m := 12) rfl hO54 hc62 (by decide) hn64 (by omega) (by show 0 ≤ (0 : Int32).toInt ∧ (0 : Int32).toInt ≤ 61; omega) (Or.inr (Or.inr (wid_fix (by decide) (by decide)))) (fun h68 hO68 hv68 d66 hc67 => ?_)
    have hu68 : un [83, 84, 85, 86, 87, 7919] h54 h68 := hv68.mono (by decide)
    have t69 := fI_of ((d66 _ (by decide)).trans hc55) p56
    have t70 := fI_of ((d66 _ (by decide)).trans hc55) (gs_ne (k := 23) (v := .inl 0) p46 (by decide))
    have t71 := fI_of ((d66 _ (by decide)).trans hc55) (gs_ne (k := 23) (v := .inl 0) p47 (by decide))
    have t72 := fI_of ((d66 _ (by decide)).trans hc55) (gs_ne (k := 23) (v := .inl 0) (gs_eq (v := .inl 0) p36) (by decide))
    have t73 := fI_of ((d66 _ (by decide)).trans hc55) (gs_eq (v := .inl 0) (gs_ne (k := 22) (v := .inl 0) p37 (by decide)))
    have t74 := lm_set hc67 (by omega) (by omega)
    refine ur_ldA rfl rfl ?_
    have t75 := fI_keep (k := 19) hO54 hO68 hv68 rfl (by decide)
    refine ur_inl rfl (rcv_of ((d66 _ (by decide)).trans hc55)) (Nat.le_of_ble_eq_true rfl) (Nat.le_of_ble_eq_true rfl) (sf_X12_line hO68 (by omega) (by omega) (by omega) (TX.c85 ((((hX0.2.2.2.2.cong d24).cong d32).cong d43).cong d53) hO54 d66 hc62 hc67 (by omega)) (TL.z (by omega) (by omega)) (fun w76 h82 hr77 hO82 hv82 hp78 hp79 hp80 hp81 => ?_))
    have hu82 : un [83, 84, 85, 86, 87, 7919] h68 h82 := hv82.mono (by decide)
    subst hr77
    show uRun _ (uCall Mt _) _ 54 (_, [], _, _, _)
    obtain ⟨fs83, hc84⟩ := hO82.mod
    obtain ⟨f85, p86, t87⟩ := mf_19 hO82 hc84
    have t88 := fI_of hc84 p86
    obtain ⟨f89, p90⟩ := mf_20 hO82 hc84
    have t91 := fI_of hc84 p90
    obtain ⟨f92, p93⟩ := mf_21 hO82 hc84
    have t94 := fI_of hc84 p93
    obtain ⟨f95, p96⟩ := mf_22 hO82 hc84
    have t97 := fI_of hc84 p96
    obtain ⟨f98, p99, t100⟩ := mf_23 hO82 hc84
    have t101 := fI_of hc84 p99
    have L102 : ∀ (m103 : Nat)  (h105 : aH) , OK h105 → un [83, 84, 85, 86, 87, 7919] h82 h105 → (fI h105 19 = fI h0 19 ∧ 0 ≤ fI h105 20 ∧ fI h105 20 ≤ fI h105 19 ∧ 1 ≤ lm h105 ∧ lm h105 ≤ 61 ∧ (fI h105 21 < 0 → 2 * lm h105 ≤ fI h105 20 + 1 ∧ fI h105 23 ≤ fI h105 20 ∧ fI h105 22 = 0)) → (TX h105) → (fI h105 21 < 0 → TL h105) → ((121 - fI h105 20).toNat) < m103 → uRun oX12_text (uCall Mt (d + 46)) Q 54 ([some (.inr (.inr (some 69))), some (.inl a1), none, none], [], h105, kc, ks) := by
      intro m103
      induction m103 with
      | zero => intro  h105 hO105 hu105 iv108 px106 px107 mm109; omega
      | succ m103 ih104 =>
        intro  h105 hO105 hu105 iv108 px106 px107 mm109
        refine ur_ldA rfl rfl ?_
        obtain ⟨fs110, hc111⟩ := hO105.mod
        obtain ⟨f112, p113⟩ := mf_21 hO105 hc111
        have t114 := fI_of hc111 p113
        refine ur_get rfl hc111 p113 ?_
        refine ur_if1 rfl (fun c115 => ?_) (fun c115 => ?_)
        · have t116 := le_to c115
          refine ur_ldA rfl rfl ?_
          refine ur_get rfl hc111 p113 ?_
          refine ur_if1 rfl (fun c117 => ?_) (fun c117 => ?_)
          · have t118 := le_to c117
            refine ur_ldA rfl rfl ?_
            refine ur_push rfl ?_
            obtain ⟨f119, p120, t121⟩ := mf_19 hO105 hc111
            have t122 := fI_of hc111 p120
            obtain ⟨f123, p124⟩ := mf_20 hO105 hc111
            have t125 := fI_of hc111 p124
            obtain ⟨f126, p127⟩ := mf_22 hO105 hc111
            have t128 := fI_of hc111 p127
            obtain ⟨f129, p130, t131⟩ := mf_23 hO105 hc111
            have t132 := fI_of hc111 p130
            refine ur_putM (W := [7919]) rfl hO105 hc111 (by decide) rfl (ms_19 (hO105.msh hc111) (show 0 ≤ (0 : Int32).toInt ∧ (0 : Int32).toInt ≤ 120 by omega)) (Or.inr (by decide)) (fun h134 hO134 hv134 d133 hc135 => ?_)
            have hu134 : un [83, 84, 85, 86, 87, 7919] h105 h134 := hv134.mono (by decide)
            have t136 := fI_of hc135 (gs_eq (v := .inl 0) p120)
            have t137 := fI_of hc135 (gs_ne (k := 19) (v := .inl 0) p124 (by decide))
            have t138 := fI_of hc135 (gs_ne (k := 19) (v := .inl 0) p113 (by decide))
            have t139 := fI_of hc135 (gs_ne (k := 19) (v := .inl 0) p127 (by decide))
            have t140 := fI_of hc135 (gs_ne (k := 19) (v := .inl 0) p130 (by decide))
            refine ur_ldA rfl rfl ?_
            refine ur_get rfl hc135 (gs_ne (k := 19) (v := .inl 0) p113 (by decide)) ?_
            refine ur_if1 rfl (fun c141 => ?_) (fun c141 => ?_)
            · have t142 := lt_to c141
              exfalso
              omega
            · have t143 := lt_no c141
              refine ur_push rfl ?_
              refine ur_ldA rfl rfl ?_
              refine ur_get rfl hc135 (gs_ne (k := 19) (v := .inl 0) p113 (by decide)) ?_
              refine ur_binV rfl (fun x144 e145 => ?_)
              have z146 := any_r f112
              have t147 := fI_keep (k := 19) hO68 hO82 hv82 rfl (by decide)
              exact ur_ret rfl rfl (hQ _ _ ⟨_, rfl, ⟨by omega, by omega⟩⟩ hO134 (hu25.tr (hu33.tr (hu44.tr (hu54.tr (hu68.tr (hu82.tr (hu105.tr hu134))))))) ⟨hX0.1.un hO0 hO134 (hu25.tr (hu33.tr (hu44.tr (hu54.tr (hu68.tr (hu82.tr (hu105.tr hu134))))))) (by decide) (by decide), hX0.2.1.un hO0 hO134 (hu25.tr (hu33.tr (hu44.tr (hu54.tr (hu68.tr (hu82.tr (hu105.tr hu134))))))) (by decide) (by decide), hX0.2.2.1.un hO0 hO134 (hu25.tr (hu33.tr (hu44.tr (hu54.tr (hu68.tr (hu82.tr (hu105.tr hu134))))))) (by decide) (by decide), hX0.2.2.2.1.un hO0 hO134 (hu25.tr (hu33.tr (hu44.tr (hu54.tr (hu68.tr (hu82.tr (hu105.tr hu134))))))) (by decide) (by decide) (by decide), (px106.cong d133)⟩)
          · have t148 := le_no c117
            exfalso
            omega
        · have t149 := le_no c115
          refine ur_ldA rfl rfl ?_
          obtain ⟨f150, p151, t152⟩ := mf_19 hO105 hc111
          have t153 := fI_of hc111 p151
          obtain ⟨f154, p155⟩ := mf_20 hO105 hc111
          have t156 := fI_of hc111 p155
          have t157 := fI_keep (k := 19) hO68 hO82 hv82 rfl (by decide)
          refine ur_inl rfl (rcv_of hc111) (Nat.le_of_ble_eq_true rfl) (Nat.le_of_ble_eq_true rfl) (sf_X12_look hO105 (by omega) (fun w158 hr159 => ?_))
          obtain ⟨x160, rfl, t161⟩ := hr159
          show uRun _ (uCall Mt _) _ 65 (_, [(.inl x160)], _, _, _)
          refine ur_push rfl ?_
          refine ur_if2 rfl (fun c162 => ?_) (fun c162 => ?_)
          · have t163 := ne_to c162
            refine ur_ldA rfl rfl ?_
            refine ur_get rfl hc111 p113 ?_
            refine ur_if1 rfl (fun c164 => ?_) (fun c164 => ?_)
            · have t165 := le_to c164
              exfalso
              omega
            · have t166 := le_no c164
              refine ur_ldA rfl rfl ?_
              refine ur_get rfl hc111 p155 ?_
              have t167 : 0 ≤ f154.toInt ∧ f154.toInt ≤ 120 := by omega
              refine ur_ldA rfl rfl ?_
              refine ur_get rfl hc111 p151 ?_
              have z168 := any_r f154
              have z169 := any_r f150
              refine ur_if2 rfl (fun c170 => ?_) (fun c170 => ?_)
              · have t171 := le_to c170
                refine ur_ldA rfl rfl ?_
                refine ur_push rfl ?_
                obtain ⟨f172, p173⟩ := mf_22 hO105 hc111
                have t174 := fI_of hc111 p173
                obtain ⟨f175, p176, t177⟩ := mf_23 hO105 hc111
                have t178 := fI_of hc111 p176
                refine ur_putM (W := [7919]) rfl hO105 hc111 (by decide) rfl (ms_19 (hO105.msh hc111) (show 0 ≤ (0 : Int32).toInt ∧ (0 : Int32).toInt ≤ 120 by omega)) (Or.inr (by decide)) (fun h180 hO180 hv180 d179 hc181 => ?_)
                have hu180 : un [83, 84, 85, 86, 87, 7919] h105 h180 := hv180.mono (by decide)
                have t182 := fI_of hc181 (gs_eq (v := .inl 0) p151)
                have t183 := fI_of hc181 (gs_ne (k := 19) (v := .inl 0) p155 (by decide))
                have t184 := fI_of hc181 (gs_ne (k := 19) (v := .inl 0) p113 (by decide))
                have t185 := fI_of hc181 (gs_ne (k := 19) (v := .inl 0) p173 (by decide))
                have t186 := fI_of hc181 (gs_ne (k := 19) (v := .inl 0) p176 (by decide))
                refine ur_ldA rfl rfl ?_
                refine ur_get rfl hc181 (gs_ne (k := 19) (v := .inl 0) p113 (by decide)) ?_
                refine ur_if1 rfl (fun c187 => ?_) (fun c187 => ?_)
                · have t188 := lt_to c187
                  have t189 := lm_c (d179 85 (by decide))
                  refine ur_ldI rfl rfl ?_
                  refine ur_inl rfl rfl (Nat.le_of_ble_eq_true rfl) (Nat.le_of_ble_eq_true rfl) (sg_placeFor _ (by show 0 ≤ a1.toInt ∧ a1.toInt ≤ 18; omega) (fun w190 hr191 => ?_))
                  obtain ⟨x192, rfl, t193⟩ := hr191
                  show uRun _ (uCall Mt _) _ 133 (_, [(.inl x192)], _, _, _)
                  refine ur_svIk [some (.inr (.inr (some 69))), some (.inl a1), some (.inl x192), none] rfl rfl ?_
                  have t194 : 0 ≤ x192.toInt ∧ x192.toInt ≤ 10 := by omega
                  refine ur_push rfl ?_
                  refine ur_svIk [some (.inr (.inr (some 69))), some (.inl a1), some (.inl x192), some (.inl 0)] rfl rfl ?_
                  have L196 : ∀ (m197 : Nat) (x195 : Int32) (h199 : aH) , OK h199 → un [83, 84, 85, 86, 87, 7919] h180 h199 → ((0 ≤ x195.toInt ∧ x195.toInt ≤ 130) ∧ x195.toInt ≤ fI h199 23 ∧ fI h199 23 = fI h180 23 ∧ fI h199 19 = fI h180 19) → (cp (arI h180 83) (arI h199 83) 1430 (130 * iN x192) (iN x195)) → (cp (arI h180 84) (arI h199 84) 1430 (130 * iN x192) (iN x195)) → (arI h199 85 = arI h180 85 ∧ arI h199 86 = arI h180 86 ∧ arI h199 87 = arI h180 87) → ((131 - x195.toInt).toNat) < m197 → uRun oX12_text (uCall Mt (d + 46)) Q 136 ([some (.inr (.inr (some 69))), some (.inl a1), some (.inl x192), some (.inl x195)], [], h199, kc, ks) := by
                    intro m197
                    induction m197 with
                    | zero => intro x195 h199 hO199 hu199 iv203 px200 px201 px202 mm204; omega
                    | succ m197 ih198 =>
                      intro x195 h199 hO199 hu199 iv203 px200 px201 px202 mm204
                      obtain ⟨xs206, hc205, hn207, he208⟩ := hO199.byt (hO199.fix 83 (by decide) rfl)
                      obtain ⟨xs210, hc209, hn211, he212⟩ := hO199.int (hO199.fix 84 (by decide) rfl)
                      obtain ⟨fs213, hc214⟩ := hO199.mod
                      obtain ⟨f215, p216, t217⟩ := mf_19 hO199 hc214
                      have t218 := fI_of hc214 p216
                      refine ur_ldI rfl rfl ?_
                      refine ur_ldA rfl rfl ?_
                      obtain ⟨f219, p220, t221⟩ := mf_23 hO199 hc214
                      have t222 := fI_of hc214 p220
                      refine ur_get rfl hc214 p220 ?_
                      have z223 := any_r x195
                      have z224 := any_r f219
                      refine ur_if2 rfl (fun c225 => ?_) (fun c225 => ?_)
                      · have t226 := le_to c225
                        refine ur_ldA rfl rfl ?_
                        refine ur_get rfl hc214 (mf_26 hO199 hc214) ?_
                        refine ur_ldI rfl rfl ?_
                        refine ur_ldA rfl rfl ?_
                        refine ur_get rfl hc214 (mf_26 hO199 hc214) ?_
                        refine ur_push rfl ?_
                        obtain ⟨xs228, hc227, hn229, he230⟩ := hO199.int (hO199.fix 85 (by decide) rfl)
                        refine ur_aldV rfl hc227 hn229 (by omega) (fun x231 hx232 => ?_)
                        have t233 : 0 ≤ x231.toInt ∧ x231.toInt ≤ 61 := he230 _ _ hx232
                        have t234 := lm_of hc227 hx232
                        have t235 := lm_e px202.1
                        refine ur_astV (W := [85]) (m := 12) rfl hO199 hc227 (by decide) hn229 (by omega) (by show 0 ≤ x231.toInt ∧ x231.toInt ≤ 61; omega) (Or.inr (Or.inr (wid_fix (by decide) (by decide)))) (fun h238 hO238 hv238 d236 hc237 => ?_)
                        have hu238 : un [83, 84, 85, 86, 87, 7919] h199 h238 := hv238.mono (by decide)
                        have t239 := fI_of ((d236 _ (by decide)).trans hc214) p216
                        obtain ⟨f240, p241⟩ := mf_20 hO238 ((d236 _ (by decide)).trans hc214)
                        have t242 := fI_of ((d236 _ (by decide)).trans hc214) p241
                        obtain ⟨f243, p244⟩ := mf_21 hO238 ((d236 _ (by decide)).trans hc214)
                        have t245 := fI_of ((d236 _ (by decide)).trans hc214) p244
                        obtain ⟨f246, p247⟩ := mf_22 hO238 ((d236 _ (by decide)).trans hc214)
                        have t248 := fI_of ((d236 _ (by decide)).trans hc214) p247
                        have t249 := fI_of ((d236 _ (by decide)).trans hc214) p220
                        have t250 := lnV_set hc237 (iN_lt (by omega))
                        refine ur_push rfl ?_
                        refine ur_svIk [some (.inr (.inr (some 69))), some (.inl a1), some (.inl x192), some (.inl 0)] rfl rfl ?_
                        have L252 : ∀ (m253 : Nat) (x251 : Int32) (h255 : aH) , OK h255 → un [83, 84, 85, 86, 87, 7919] h238 h255 → ((0 ≤ x251.toInt ∧ x251.toInt ≤ 61) ∧ x251.toInt ≤ lnV h255 (iN x192) ∧ lnV h255 (iN x192) = lnV h238 (iN x192) ∧ fI h255 19 = fI h238 19) → (cp (arI h238 86) (arI h255 86) 671 (61 * iN x192) (iN x251)) → (cp (arI h238 87) (arI h255 87) 671 (61 * iN x192) (iN x251)) → (arI h255 83 = arI h238 83 ∧ arI h255 84 = arI h238 84 ∧ arI h255 85 = arI h238 85) → ((62 - x251.toInt).toNat) < m253 → uRun oX12_text (uCall Mt (d + 46)) Q 209 ([some (.inr (.inr (some 69))), some (.inl a1), some (.inl x192), some (.inl x251)], [], h255, kc, ks) := by
                          intro m253
                          induction m253 with
                          | zero => intro x251 h255 hO255 hu255 iv259 px256 px257 px258 mm260; omega
                          | succ m253 ih254 =>
                            intro x251 h255 hO255 hu255 iv259 px256 px257 px258 mm260
                            obtain ⟨xs262, hc261, hn263, he264⟩ := hO255.sho (hO255.fix 86 (by decide) rfl)
                            obtain ⟨xs266, hc265, hn267, he268⟩ := hO255.sho (hO255.fix 87 (by decide) rfl)
                            obtain ⟨fs269, hc270⟩ := hO255.mod
                            obtain ⟨f271, p272, t273⟩ := mf_19 hO255 hc270
                            have t274 := fI_of hc270 p272
                            refine ur_ldI rfl rfl ?_
                            refine ur_ldA rfl rfl ?_
                            refine ur_get rfl hc270 (mf_26 hO255 hc270) ?_
                            refine ur_ldI rfl rfl ?_
                            obtain ⟨xs276, hc275, hn277, he278⟩ := hO255.int (hO255.fix 85 (by decide) rfl)
                            refine ur_aldV rfl hc275 hn277 (by omega) (fun x279 hx280 => ?_)
                            have t281 : 0 ≤ x279.toInt ∧ x279.toInt ≤ 61 := he278 _ _ hx280
                            have t282 := lnV_of (p := x192) hc275 hx280
                            have z283 := any_r x251
                            have z284 := any_r x279
                            refine ur_if2 rfl (fun c285 => ?_) (fun c285 => ?_)
                            · have t286 := le_to c285
                              refine ur_push rfl ?_
                              obtain ⟨f287, p288⟩ := mf_20 hO255 hc270
                              have t289 := fI_of hc270 p288
                              obtain ⟨f290, p291⟩ := mf_21 hO255 hc270
                              have t292 := fI_of hc270 p291
                              obtain ⟨f293, p294⟩ := mf_22 hO255 hc270
                              have t295 := fI_of hc270 p294
                              obtain ⟨f296, p297, t298⟩ := mf_23 hO255 hc270
                              have t299 := fI_of hc270 p297
                              have t300 := fI_keep (k := 19) hO199 hO238 hv238 rfl (by decide)
                              exact ur_ret rfl rfl (hQ _ _ ⟨_, rfl, ⟨by omega, by omega⟩⟩ hO255 (hu25.tr (hu33.tr (hu44.tr (hu54.tr (hu68.tr (hu82.tr (hu105.tr (hu180.tr (hu199.tr (hu238.tr hu255)))))))))) ⟨hX0.1.un hO0 hO255 (hu25.tr (hu33.tr (hu44.tr (hu54.tr (hu68.tr (hu82.tr (hu105.tr (hu180.tr (hu199.tr (hu238.tr hu255)))))))))) (by decide) (by decide), hX0.2.1.un hO0 hO255 (hu25.tr (hu33.tr (hu44.tr (hu54.tr (hu68.tr (hu82.tr (hu105.tr (hu180.tr (hu199.tr (hu238.tr hu255)))))))))) (by decide) (by decide), hX0.2.2.1.un hO0 hO255 (hu25.tr (hu33.tr (hu44.tr (hu54.tr (hu68.tr (hu82.tr (hu105.tr (hu180.tr (hu199.tr (hu238.tr hu255)))))))))) (by decide) (by decide), hX0.2.2.2.1.un hO0 hO255 (hu25.tr (hu33.tr (hu44.tr (hu54.tr (hu68.tr (hu82.tr (hu105.tr (hu180.tr (hu199.tr (hu238.tr hu255)))))))))) (by decide) (by decide) (by decide), (TX_copied (p := iN x192) (n := (lm h180).toNat) (L := (fI h180 23).toNat) (iN_lt (by omega)) hO180 (px106.cong d179) (TL.cong (px107 (by omega)) d179 (by omega)).1 (TL.cong (px107 (by omega)) d179 (by omega)).2 (by rw [px258.1, arI_c (d236 83 (by decide)), iN_eq (i := fI h180 23) (x := x195) (by omega)]; exact px200) (by rw [px258.2.1, arI_c (d236 84 (by decide)), iN_eq (i := fI h180 23) (x := x195) (by omega)]; exact px201) (by rw [← show arI h238 86 = arI h180 86 from (arI_c (d236 86 (by decide))).trans px202.2.1, iN_eq (i := lm h180) (x := x251) (by omega)]; exact px256) (by rw [← show arI h238 87 = arI h180 87 from (arI_c (d236 87 (by decide))).trans px202.2.2, iN_eq (i := lm h180) (x := x251) (by omega)]; exact px257) (fun i hi hn => by rw [px258.2.2, arI_of hc237, List.getElem?_set_ne (iN_ne hn), ← arI_of hc227, px202.1]) (by rw [px258.2.2]; exact (congrArg iN (gd_set (i := iN x192) hc237 rfl (iN_lt (by omega)))).trans (iN_eq (i := lm h180) (by omega)).symm) (by omega) (by omega))⟩)
                            · have t301 := le_no c285
                              refine ur_ldA rfl rfl ?_
                              refine ur_get rfl hc270 (mf_27 hO255 hc270) ?_
                              refine ur_push rfl ?_
                              refine ur_ldI rfl rfl ?_
                              refine ur_binV rfl (fun x302 e303 => ?_)
                              have z304 := any_r x192
                              have t305 := ti_mulR e303 l_61 (by omega) (by omega)
                              refine ur_ldI rfl rfl ?_
                              refine ur_binV rfl (fun x306 e307 => ?_)
                              have z308 := any_r x302
                              have t309 := ti_add e307 (by omega) (by omega)
                              refine ur_ldA rfl rfl ?_
                              refine ur_get rfl hc270 (mf_27 hO255 hc270) ?_
                              refine ur_push rfl ?_
                              refine ur_ldI rfl rfl ?_
                              refine ur_binV rfl (fun x310 e311 => ?_)
                              have t312 := ti_add e311 (by omega) (by omega)
                              refine ur_aldV rfl hc261 hn263 (by omega) (fun x313 hx314 => ?_)
                              have t315 : 0 ≤ x313.toInt ∧ x313.toInt ≤ 130 := he264 _ _ hx314
                              have t318 : (vp_nar .short x313).toInt = x313.toInt := nar_vs (by omega)
                              refine ur_astV (W := [86]) (m := 732) rfl hO255 hc261 (by decide) hn263 (by omega) (by show 0 ≤ (vp_nar .short x313).toInt ∧ (vp_nar .short x313).toInt ≤ 130; rw [nar_vs (by omega)]; omega) (Or.inr (Or.inr (wid_fix (by decide) (by decide)))) (fun h319 hO319 hv319 d316 hc317 => ?_)
                              have hu319 : un [83, 84, 85, 86, 87, 7919] h255 h319 := hv319.mono (by decide)
                              refine ur_ldA rfl rfl ?_
                              refine ur_get rfl ((d316 _ (by decide)).trans hc270) (mf_28 hO319 ((d316 _ (by decide)).trans hc270)) ?_
                              refine ur_push rfl ?_
                              refine ur_ldI rfl rfl ?_
                              refine ur_binV rfl (fun x320 e321 => ?_)
                              have t322 := ti_mulR e321 l_61 (by omega) (by omega)
                              refine ur_ldI rfl rfl ?_
                              refine ur_binV rfl (fun x323 e324 => ?_)
                              have z325 := any_r x320
                              have t326 := ti_add e324 (by omega) (by omega)
                              refine ur_ldA rfl rfl ?_
                              refine ur_get rfl ((d316 _ (by decide)).trans hc270) (mf_28 hO319 ((d316 _ (by decide)).trans hc270)) ?_
                              refine ur_push rfl ?_
                              refine ur_ldI rfl rfl ?_
                              refine ur_binV rfl (fun x327 e328 => ?_)
                              have t329 := ti_add e328 (by omega) (by omega)
                              refine ur_aldV rfl ((d316 _ (by decide)).trans hc265) hn267 (by omega) (fun x330 hx331 => ?_)
                              have t332 : 0 ≤ x330.toInt ∧ x330.toInt ≤ 130 := he268 _ _ hx331
                              have t335 : (vp_nar .short x330).toInt = x330.toInt := nar_vs (by omega)
                              refine ur_astV (W := [87]) (m := 732) rfl hO319 ((d316 _ (by decide)).trans hc265) (by decide) hn267 (by omega) (by show 0 ≤ (vp_nar .short x330).toInt ∧ (vp_nar .short x330).toInt ≤ 130; rw [nar_vs (by omega)]; omega) (Or.inr (Or.inr (wid_fix (by decide) (by decide)))) (fun h336 hO336 hv336 d333 hc334 => ?_)
                              have hu336 : un [83, 84, 85, 86, 87, 7919] h319 h336 := hv336.mono (by decide)
                              have t337 := lnV_c (p := iN x192) (d316 85 (by decide))
                              have t338 := lnV_c (p := iN x192) (d333 85 (by decide))
                              refine ur_incV (fun z => [some (.inr (.inr (some 69))), some (.inl a1), some (.inl x192), some (.inl z)]) rfl rfl (fun _ => rfl) (fun x339 e340 => ?_)
                              have t341 := ti_add e340 (by omega) (by omega)
                              refine ur_go rfl ?_
                              have hc342 := ((d333 _ (by decide)).trans ((d316 _ (by decide)).trans hc270))
                              have t343 := fI_of hc342 p272
                              obtain ⟨f344, p345⟩ := mf_20 hO336 hc342
                              have t346 := fI_of hc342 p345
                              obtain ⟨f347, p348⟩ := mf_21 hO336 hc342
                              have t349 := fI_of hc342 p348
                              obtain ⟨f350, p351⟩ := mf_22 hO336 hc342
                              have t352 := fI_of hc342 p351
                              obtain ⟨f353, p354, t355⟩ := mf_23 hO336 hc342
                              have t356 := fI_of hc342 p354
                              have z357 := any_r x339
                              exact ih254 x339 _ hO336 (hu255.tr (hu319.tr hu336)) (by omega) (cpS61 (p := x192) px256 hc261 ((d333 _ (by decide)).trans hc317) hx314 (vps_eq (by omega)) hn263 (by omega) (by omega) (by omega) (by omega) (by omega)) (cpS61 (p := x192) px257 hc265 hc334 hx331 (vps_eq (by omega)) hn267 (by omega) (by omega) (by omega) (by omega) (by omega)) ⟨((arI_c (d333 83 (by decide))).trans ((arI_c (d316 83 (by decide))).trans px258.1)), ((arI_c (d333 84 (by decide))).trans ((arI_c (d316 84 (by decide))).trans px258.2.1)), ((arI_c (d333 85 (by decide))).trans ((arI_c (d316 85 (by decide))).trans px258.2.2))⟩ (by omega)
                        exact L252 _ 0 _ hO238 un.rf (by omega) (by rw [show iN 0 = 0 by decide]; exact cp.z) (by rw [show iN 0 = 0 by decide]; exact cp.z) ⟨rfl, rfl, rfl⟩ (Nat.lt_succ_self _)
                      · have t358 := le_no c225
                        refine ur_ldA rfl rfl ?_
                        refine ur_get rfl hc214 (mf_24 hO199 hc214) ?_
                        refine ur_push rfl ?_
                        refine ur_ldI rfl rfl ?_
                        refine ur_binV rfl (fun x359 e360 => ?_)
                        have z361 := any_r x192
                        have t362 := ti_mulR e360 l_130 (by omega) (by omega)
                        refine ur_ldI rfl rfl ?_
                        refine ur_binV rfl (fun x363 e364 => ?_)
                        have z365 := any_r x359
                        have t366 := ti_add e364 (by omega) (by omega)
                        refine ur_ldA rfl rfl ?_
                        refine ur_get rfl hc214 (mf_24 hO199 hc214) ?_
                        refine ur_push rfl ?_
                        refine ur_ldI rfl rfl ?_
                        refine ur_binV rfl (fun x367 e368 => ?_)
                        have t369 := ti_add e368 (by omega) (by omega)
                        refine ur_aldV rfl hc205 hn207 (by omega) (fun x370 hx371 => ?_)
                        have t372 : 0 ≤ x370.toInt ∧ x370.toInt ≤ 124 := he208 _ _ hx371
                        refine ur_astV (W := [83]) (m := 1560) rfl hO199 hc205 (by decide) hn207 (by omega) (by show 0 ≤ (vp_nar .byte x370).toInt ∧ (vp_nar .byte x370).toInt ≤ 124; rw [nar_vb (by omega)]; omega) (Or.inr (Or.inr (wid_fix (by decide) (by decide)))) (fun h375 hO375 hv375 d373 hc374 => ?_)
                        have hu375 : un [83, 84, 85, 86, 87, 7919] h199 h375 := hv375.mono (by decide)
                        refine ur_ldA rfl rfl ?_
                        refine ur_get rfl ((d373 _ (by decide)).trans hc214) (mf_25 hO375 ((d373 _ (by decide)).trans hc214)) ?_
                        refine ur_push rfl ?_
                        refine ur_ldI rfl rfl ?_
                        refine ur_binV rfl (fun x376 e377 => ?_)
                        have t378 := ti_mulR e377 l_130 (by omega) (by omega)
                        refine ur_ldI rfl rfl ?_
                        refine ur_binV rfl (fun x379 e380 => ?_)
                        have z381 := any_r x376
                        have t382 := ti_add e380 (by omega) (by omega)
                        refine ur_ldA rfl rfl ?_
                        refine ur_get rfl ((d373 _ (by decide)).trans hc214) (mf_25 hO375 ((d373 _ (by decide)).trans hc214)) ?_
                        refine ur_push rfl ?_
                        refine ur_ldI rfl rfl ?_
                        refine ur_binV rfl (fun x383 e384 => ?_)
                        have t385 := ti_add e384 (by omega) (by omega)
                        refine ur_aldV rfl ((d373 _ (by decide)).trans hc209) hn211 (by omega) (fun x386 hx387 => ?_)
                        refine ur_astV (W := [84]) (m := 1560) rfl hO375 ((d373 _ (by decide)).trans hc209) (by decide) hn211 (by omega) (any_r _) (Or.inr (Or.inr (wid_fix (by decide) (by decide)))) (fun h390 hO390 hv390 d388 hc389 => ?_)
                        have hu390 : un [83, 84, 85, 86, 87, 7919] h375 h390 := hv390.mono (by decide)
                        refine ur_incV (fun z => [some (.inr (.inr (some 69))), some (.inl a1), some (.inl x192), some (.inl z)]) rfl rfl (fun _ => rfl) (fun x391 e392 => ?_)
                        have t393 := ti_add e392 (by omega) (by omega)
                        refine ur_go rfl ?_
                        have hc394 := ((d388 _ (by decide)).trans ((d373 _ (by decide)).trans hc214))
                        have t395 := fI_of hc394 p216
                        obtain ⟨f396, p397⟩ := mf_20 hO390 hc394
                        have t398 := fI_of hc394 p397
                        obtain ⟨f399, p400⟩ := mf_21 hO390 hc394
                        have t401 := fI_of hc394 p400
                        obtain ⟨f402, p403⟩ := mf_22 hO390 hc394
                        have t404 := fI_of hc394 p403
                        have t405 := fI_of hc394 p220
                        have z406 := any_r x391
                        exact ih198 x391 _ hO390 (hu199.tr (hu375.tr hu390)) (by omega) (cpS130 (p := x192) px200 hc205 ((d388 _ (by decide)).trans hc374) hx371 (vpb_eq (by omega)) hn207 (by omega) (by omega) (by omega) (by omega) (by omega)) (cpS130 (p := x192) px201 hc209 hc389 hx387 rfl hn211 (by omega) (by omega) (by omega) (by omega) (by omega)) ⟨((arI_c (d388 85 (by decide))).trans ((arI_c (d373 85 (by decide))).trans px202.1)), ((arI_c (d388 86 (by decide))).trans ((arI_c (d373 86 (by decide))).trans px202.2.1)), ((arI_c (d388 87 (by decide))).trans ((arI_c (d373 87 (by decide))).trans px202.2.2))⟩ (by omega)
                  exact L196 _ 0 _ hO180 un.rf (by omega) (by rw [show iN 0 = 0 by decide]; exact cp.z) (by rw [show iN 0 = 0 by decide]; exact cp.z) ⟨rfl, rfl, rfl⟩ (Nat.lt_succ_self _)
                · have t407 := lt_no c187
                  exfalso
                  omega
              · have t408 := le_no c170
                refine ur_ldA rfl rfl ?_
                obtain ⟨f409, p410⟩ := mf_22 hO105 hc111
                have t411 := fI_of hc111 p410
                obtain ⟨f412, p413, t414⟩ := mf_23 hO105 hc111
                have t415 := fI_of hc111 p413
                refine ur_inl rfl (rcv_of hc111) (Nat.le_of_ble_eq_true rfl) (Nat.le_of_ble_eq_true rfl) (sf_X12_wrong hO105  (fun w416 h420 hr417 hO420 hv420 hp418 hp419 => ?_))
                have hu420 : un [83, 84, 85, 86, 87, 7919] h105 h420 := hv420.mono (by decide)
                subst hr417
                show uRun _ (uCall Mt _) _ 109 (_, [], _, _, _)
                obtain ⟨fs421, hc422⟩ := hO420.mod
                obtain ⟨f423, p424, t425⟩ := mf_19 hO420 hc422
                have t426 := fI_of hc422 p424
                obtain ⟨f427, p428⟩ := mf_20 hO420 hc422
                have t429 := fI_of hc422 p428
                obtain ⟨f430, p431⟩ := mf_21 hO420 hc422
                have t432 := fI_of hc422 p431
                obtain ⟨f433, p434⟩ := mf_22 hO420 hc422
                have t435 := fI_of hc422 p434
                obtain ⟨f436, p437, t438⟩ := mf_23 hO420 hc422
                have t439 := fI_of hc422 p437
                refine ur_ldA rfl rfl ?_
                refine ur_push rfl ?_
                refine ur_putM (W := [7919]) rfl hO420 hc422 (by decide) rfl (ms_19 (hO420.msh hc422) (show 0 ≤ (0 : Int32).toInt ∧ (0 : Int32).toInt ≤ 120 by omega)) (Or.inr (by decide)) (fun h441 hO441 hv441 d440 hc442 => ?_)
                have hu441 : un [83, 84, 85, 86, 87, 7919] h420 h441 := hv441.mono (by decide)
                have t443 := fI_of hc442 (gs_eq (v := .inl 0) p424)
                have t444 := fI_of hc442 (gs_ne (k := 19) (v := .inl 0) p428 (by decide))
                have t445 := fI_of hc442 (gs_ne (k := 19) (v := .inl 0) p431 (by decide))
                have t446 := fI_of hc442 (gs_ne (k := 19) (v := .inl 0) p434 (by decide))
                have t447 := fI_of hc442 (gs_ne (k := 19) (v := .inl 0) p437 (by decide))
                refine ur_ldA rfl rfl ?_
                refine ur_get rfl hc442 (gs_ne (k := 19) (v := .inl 0) p431 (by decide)) ?_
                refine ur_if1 rfl (fun c448 => ?_) (fun c448 => ?_)
                · have t449 := lt_to c448
                  exfalso
                  omega
                · have t450 := lt_no c448
                  refine ur_push rfl ?_
                  refine ur_ldA rfl rfl ?_
                  refine ur_get rfl hc442 (gs_ne (k := 19) (v := .inl 0) p431 (by decide)) ?_
                  refine ur_binV rfl (fun x451 e452 => ?_)
                  have z453 := any_r f430
                  have t454 := fI_keep (k := 19) hO105 hO420 hv420 rfl (by decide)
                  exact ur_ret rfl rfl (hQ _ _ ⟨_, rfl, ⟨by omega, by omega⟩⟩ hO441 (hu25.tr (hu33.tr (hu44.tr (hu54.tr (hu68.tr (hu82.tr (hu105.tr (hu420.tr hu441)))))))) ⟨hX0.1.un hO0 hO441 (hu25.tr (hu33.tr (hu44.tr (hu54.tr (hu68.tr (hu82.tr (hu105.tr (hu420.tr hu441)))))))) (by decide) (by decide), hX0.2.1.un hO0 hO441 (hu25.tr (hu33.tr (hu44.tr (hu54.tr (hu68.tr (hu82.tr (hu105.tr (hu420.tr hu441)))))))) (by decide) (by decide), hX0.2.2.1.un hO0 hO441 (hu25.tr (hu33.tr (hu44.tr (hu54.tr (hu68.tr (hu82.tr (hu105.tr (hu420.tr hu441)))))))) (by decide) (by decide), hX0.2.2.2.1.un hO0 hO441 (hu25.tr (hu33.tr (hu44.tr (hu54.tr (hu68.tr (hu82.tr (hu105.tr (hu420.tr hu441)))))))) (by decide) (by decide) (by decide), ((TX.un px106 hO105 hv420 (by decide)).cong d440)⟩)
          · have t455 := ne_no c162
            refine ur_ldA rfl rfl ?_
            refine ur_dup rfl rfl ?_
            refine ur_get rfl hc111 p155 ?_
            have t456 : 0 ≤ f154.toInt ∧ f154.toInt ≤ 120 := by omega
            refine ur_push rfl ?_
            refine ur_binV rfl (fun x457 e458 => ?_)
            have z459 := any_r f154
            have t460 := ti_add e458 (by omega) (by omega)
            obtain ⟨f461, p462⟩ := mf_22 hO105 hc111
            have t463 := fI_of hc111 p462
            obtain ⟨f464, p465, t466⟩ := mf_23 hO105 hc111
            have t467 := fI_of hc111 p465
            refine ur_putM (W := []) rfl hO105 hc111 (by decide) rfl (ms_20 (hO105.msh hc111)) (Or.inl rfl) (fun h469 hO469 hv469 d468 hc470 => ?_)
            have hu469 : un [83, 84, 85, 86, 87, 7919] h105 h469 := hv469.mono (by decide)
            have t471 := fI_of hc470 (gs_ne (k := 20) (v := .inl x457) p151 (by decide))
            have t472 := fI_of hc470 (gs_eq (v := .inl x457) p155)
            have t473 := fI_of hc470 (gs_ne (k := 20) (v := .inl x457) p113 (by decide))
            have t474 := fI_of hc470 (gs_ne (k := 20) (v := .inl x457) p462 (by decide))
            have t475 := fI_of hc470 (gs_ne (k := 20) (v := .inl x457) p465 (by decide))
            have t476 := lm_c (d468 85 (by decide))
            refine ur_ldA rfl rfl ?_
            refine ur_inl rfl (rcv_of hc470) (Nat.le_of_ble_eq_true rfl) (Nat.le_of_ble_eq_true rfl) (sf_X12_line hO469 (by omega) (by omega) (by omega) (px106.cong d468) (TL.cong (px107 (by omega)) d468 (by omega)) (fun w477 h483 hr478 hO483 hv483 hp479 hp480 hp481 hp482 => ?_))
            have hu483 : un [83, 84, 85, 86, 87, 7919] h469 h483 := hv483.mono (by decide)
            subst hr478
            show uRun _ (uCall Mt _) _ 84 (_, [], _, _, _)
            obtain ⟨fs484, hc485⟩ := hO483.mod
            obtain ⟨f486, p487, t488⟩ := mf_19 hO483 hc485
            have t489 := fI_of hc485 p487
            obtain ⟨f490, p491⟩ := mf_20 hO483 hc485
            have t492 := fI_of hc485 p491
            obtain ⟨f493, p494⟩ := mf_21 hO483 hc485
            have t495 := fI_of hc485 p494
            obtain ⟨f496, p497⟩ := mf_22 hO483 hc485
            have t498 := fI_of hc485 p497
            obtain ⟨f499, p500, t501⟩ := mf_23 hO483 hc485
            have t502 := fI_of hc485 p500
            refine ur_go rfl ?_
            exact ih104  _ hO483 (hu105.tr (hu469.tr hu483)) (by omega) hp481 hp482 (by omega)
    exact L102 _  _ hO82 un.rf (by omega) hp80 hp81 (Nat.lt_succ_self _)
  · have t503 := wi_noL c22 l_0 l_1
    refine ur_ldI rfl rfl ?_
    refine ur_push rfl ?_
    refine ur_push rfl ?_
    refine ur_callv rfl rfl (Nat.le_of_ble_eq_true rfl) (Nat.le_of_ble_eq_true rfl) rfl (sp_in _ _ _ _ _) ?_
    refine ur_neB rfl (fun c506 => ?_) (fun c506 => ?_)
    · have t507 := wi_toL c506 l_10 l_18
      refine ur_ldA rfl rfl ?_
      refine ur_push rfl ?_
      refine ur_putM (W := []) rfl hO0 hc2 (by decide) rfl (ms_20 (hO0.msh hc2)) (Or.inl rfl) (fun h509 hO509 hv509 d508 hc510 => ?_)
      have hu509 : un [83, 84, 85, 86, 87, 7919] h0 h509 := hv509.mono (by decide)
      have t511 := fI_of hc510 (gs_ne (k := 20) (v := .inl 0) p4 (by decide))
      have t512 := fI_of hc510 (gs_eq (v := .inl 0) p8)
      have t513 := fI_of hc510 (gs_ne (k := 20) (v := .inl 0) p11 (by decide))
      have t514 := fI_of hc510 (gs_ne (k := 20) (v := .inl 0) p14 (by decide))
      have t515 := fI_of hc510 (gs_ne (k := 20) (v := .inl 0) p17 (by decide))
      refine ur_ldA rfl rfl ?_
      refine ur_push rfl ?_
      refine ur_putM (W := []) rfl hO509 hc510 (by decide) rfl (ms_21 (hO509.msh hc510)) (Or.inl rfl) (fun h517 hO517 hv517 d516 hc518 => ?_)
      have hu517 : un [83, 84, 85, 86, 87, 7919] h509 h517 := hv517.mono (by decide)
      have p519 := (gs_ne (k := 21) (v := .inl (-1)) (gs_ne (k := 20) (v := .inl 0) p4 (by decide)) (by decide))
      have p520 := (gs_ne (k := 21) (v := .inl (-1)) (gs_ne (k := 20) (v := .inl 0) p14 (by decide)) (by decide))
      have p521 := (gs_ne (k := 21) (v := .inl (-1)) (gs_ne (k := 20) (v := .inl 0) p17 (by decide)) (by decide))
      have t522 := fI_of hc518 p519
      have t523 := fI_of hc518 (gs_ne (k := 21) (v := .inl (-1)) (gs_eq (v := .inl 0) p8) (by decide))
      have t524 := fI_of hc518 (gs_eq (v := .inl (-1)) (gs_ne (k := 20) (v := .inl 0) p11 (by decide)))
      have t525 := fI_of hc518 p520
      have t526 := fI_of hc518 p521
      refine ur_ldA rfl rfl ?_
      refine ur_push rfl ?_
      refine ur_putM (W := []) rfl hO517 hc518 (by decide) rfl (ms_22 (hO517.msh hc518)) (Or.inl rfl) (fun h528 hO528 hv528 d527 hc529 => ?_)
      have hu528 : un [83, 84, 85, 86, 87, 7919] h517 h528 := hv528.mono (by decide)
      have p530 := (gs_ne (k := 22) (v := .inl 0) (gs_ne (k := 21) (v := .inl (-1)) (gs_eq (v := .inl 0) p8) (by decide)) (by decide))
      have p531 := (gs_ne (k := 22) (v := .inl 0) (gs_eq (v := .inl (-1)) (gs_ne (k := 20) (v := .inl 0) p11 (by decide))) (by decide))
      have t532 := fI_of hc529 (gs_ne (k := 22) (v := .inl 0) p519 (by decide))
      have t533 := fI_of hc529 p530
      have t534 := fI_of hc529 p531
      have t535 := fI_of hc529 (gs_eq (v := .inl 0) p520)
      have t536 := fI_of hc529 (gs_ne (k := 22) (v := .inl 0) p521 (by decide))
      refine ur_ldA rfl rfl ?_
      refine ur_push rfl ?_
      refine ur_putM (W := []) rfl hO528 hc529 (by decide) rfl (ms_23 (hO528.msh hc529) (show 0 ≤ (0 : Int32).toInt ∧ (0 : Int32).toInt ≤ 130 by omega)) (Or.inl rfl) (fun h538 hO538 hv538 d537 hc539 => ?_)
      have hu538 : un [83, 84, 85, 86, 87, 7919] h528 h538 := hv538.mono (by decide)
      have p540 := (gs_ne (k := 23) (v := .inl 0) (gs_ne (k := 22) (v := .inl 0) p519 (by decide)) (by decide))
      have t541 := fI_of hc539 p540
      have t542 := fI_of hc539 (gs_ne (k := 23) (v := .inl 0) p530 (by decide))
      have t543 := fI_of hc539 (gs_ne (k := 23) (v := .inl 0) p531 (by decide))
      have t544 := fI_of hc539 (gs_ne (k := 23) (v := .inl 0) (gs_eq (v := .inl 0) p520) (by decide))
      have t545 := fI_of hc539 (gs_eq (v := .inl 0) (gs_ne (k := 22) (v := .inl 0) p521 (by decide)))
      refine ur_ldA rfl rfl ?_
      refine ur_get rfl hc539 (mf_26 hO538 hc539) ?_
      refine ur_push rfl ?_
      refine ur_push rfl ?_
      obtain ⟨xs547, hc546, hn548, he549⟩ := hO538.int (hO538.fix 85 (by decide) rfl)
      refine ur_astV (W := [85]) (m := 12) rfl hO538 hc546 (by decide) hn548 (by omega) (by show 0 ≤ (0 : Int32).toInt ∧ (0 : Int32).toInt ≤ 61; omega) (Or.inr (Or.inr (wid_fix (by decide) (by decide)))) (fun h552 hO552 hv552 d550 hc551 => ?_)
      have hu552 : un [83, 84, 85, 86, 87, 7919] h538 h552 := hv552.mono (by decide)
      have t553 := fI_of ((d550 _ (by decide)).trans hc539) p540
      have t554 := fI_of ((d550 _ (by decide)).trans hc539) (gs_ne (k := 23) (v := .inl 0) p530 (by decide))
      have t555 := fI_of ((d550 _ (by decide)).trans hc539) (gs_ne (k := 23) (v := .inl 0) p531 (by decide))
      have t556 := fI_of ((d550 _ (by decide)).trans hc539) (gs_ne (k := 23) (v := .inl 0) (gs_eq (v := .inl 0) p520) (by decide))
      have t557 := fI_of ((d550 _ (by decide)).trans hc539) (gs_eq (v := .inl 0) (gs_ne (k := 22) (v := .inl 0) p521 (by decide)))
      have t558 := lm_set hc551 (by omega) (by omega)
      refine ur_ldA rfl rfl ?_
      have t559 := fI_keep (k := 19) hO538 hO552 hv552 rfl (by decide)
      refine ur_inl rfl (rcv_of ((d550 _ (by decide)).trans hc539)) (Nat.le_of_ble_eq_true rfl) (Nat.le_of_ble_eq_true rfl) (sf_X12_line hO552 (by omega) (by omega) (by omega) (TX.c85 ((((hX0.2.2.2.2.cong d508).cong d516).cong d527).cong d537) hO538 d550 hc546 hc551 (by omega)) (TL.z (by omega) (by omega)) (fun w560 h566 hr561 hO566 hv566 hp562 hp563 hp564 hp565 => ?_))
      have hu566 : un [83, 84, 85, 86, 87, 7919] h552 h566 := hv566.mono (by decide)
      subst hr561
      show uRun _ (uCall Mt _) _ 54 (_, [], _, _, _)
      obtain ⟨fs567, hc568⟩ := hO566.mod
      obtain ⟨f569, p570, t571⟩ := mf_19 hO566 hc568
      have t572 := fI_of hc568 p570
      obtain ⟨f573, p574⟩ := mf_20 hO566 hc568
      have t575 := fI_of hc568 p574
      obtain ⟨f576, p577⟩ := mf_21 hO566 hc568
      have t578 := fI_of hc568 p577
      obtain ⟨f579, p580⟩ := mf_22 hO566 hc568
      have t581 := fI_of hc568 p580
      obtain ⟨f582, p583, t584⟩ := mf_23 hO566 hc568
      have t585 := fI_of hc568 p583
      have L586 : ∀ (m587 : Nat)  (h589 : aH) , OK h589 → un [83, 84, 85, 86, 87, 7919] h566 h589 → (fI h589 19 = fI h0 19 ∧ 0 ≤ fI h589 20 ∧ fI h589 20 ≤ fI h589 19 ∧ 1 ≤ lm h589 ∧ lm h589 ≤ 61 ∧ (fI h589 21 < 0 → 2 * lm h589 ≤ fI h589 20 + 1 ∧ fI h589 23 ≤ fI h589 20 ∧ fI h589 22 = 0)) → (TX h589) → (fI h589 21 < 0 → TL h589) → ((121 - fI h589 20).toNat) < m587 → uRun oX12_text (uCall Mt (d + 46)) Q 54 ([some (.inr (.inr (some 69))), some (.inl a1), none, none], [], h589, kc, ks) := by
        intro m587
        induction m587 with
        | zero => intro  h589 hO589 hu589 iv592 px590 px591 mm593; omega
        | succ m587 ih588 =>
          intro  h589 hO589 hu589 iv592 px590 px591 mm593
          refine ur_ldA rfl rfl ?_
          obtain ⟨fs594, hc595⟩ := hO589.mod
          obtain ⟨f596, p597⟩ := mf_21 hO589 hc595
          have t598 := fI_of hc595 p597
          refine ur_get rfl hc595 p597 ?_
          refine ur_if1 rfl (fun c599 => ?_) (fun c599 => ?_)
          · have t600 := le_to c599
            refine ur_ldA rfl rfl ?_
            refine ur_get rfl hc595 p597 ?_
            refine ur_if1 rfl (fun c601 => ?_) (fun c601 => ?_)
            · have t602 := le_to c601
              refine ur_ldA rfl rfl ?_
              refine ur_push rfl ?_
              obtain ⟨f603, p604, t605⟩ := mf_19 hO589 hc595
              have t606 := fI_of hc595 p604
              obtain ⟨f607, p608⟩ := mf_20 hO589 hc595
              have t609 := fI_of hc595 p608
              obtain ⟨f610, p611⟩ := mf_22 hO589 hc595
              have t612 := fI_of hc595 p611
              obtain ⟨f613, p614, t615⟩ := mf_23 hO589 hc595
              have t616 := fI_of hc595 p614
              refine ur_putM (W := [7919]) rfl hO589 hc595 (by decide) rfl (ms_19 (hO589.msh hc595) (show 0 ≤ (0 : Int32).toInt ∧ (0 : Int32).toInt ≤ 120 by omega)) (Or.inr (by decide)) (fun h618 hO618 hv618 d617 hc619 => ?_)
              have hu618 : un [83, 84, 85, 86, 87, 7919] h589 h618 := hv618.mono (by decide)
              have t620 := fI_of hc619 (gs_eq (v := .inl 0) p604)
              have t621 := fI_of hc619 (gs_ne (k := 19) (v := .inl 0) p608 (by decide))
              have t622 := fI_of hc619 (gs_ne (k := 19) (v := .inl 0) p597 (by decide))
              have t623 := fI_of hc619 (gs_ne (k := 19) (v := .inl 0) p611 (by decide))
              have t624 := fI_of hc619 (gs_ne (k := 19) (v := .inl 0) p614 (by decide))
              refine ur_ldA rfl rfl ?_
              refine ur_get rfl hc619 (gs_ne (k := 19) (v := .inl 0) p597 (by decide)) ?_
              refine ur_if1 rfl (fun c625 => ?_) (fun c625 => ?_)
              · have t626 := lt_to c625
                exfalso
                omega
              · have t627 := lt_no c625
                refine ur_push rfl ?_
                refine ur_ldA rfl rfl ?_
                refine ur_get rfl hc619 (gs_ne (k := 19) (v := .inl 0) p597 (by decide)) ?_
                refine ur_binV rfl (fun x628 e629 => ?_)
                have z630 := any_r f596
                have t631 := fI_keep (k := 19) hO552 hO566 hv566 rfl (by decide)
                exact ur_ret rfl rfl (hQ _ _ ⟨_, rfl, ⟨by omega, by omega⟩⟩ hO618 (hu509.tr (hu517.tr (hu528.tr (hu538.tr (hu552.tr (hu566.tr (hu589.tr hu618))))))) ⟨hX0.1.un hO0 hO618 (hu509.tr (hu517.tr (hu528.tr (hu538.tr (hu552.tr (hu566.tr (hu589.tr hu618))))))) (by decide) (by decide), hX0.2.1.un hO0 hO618 (hu509.tr (hu517.tr (hu528.tr (hu538.tr (hu552.tr (hu566.tr (hu589.tr hu618))))))) (by decide) (by decide), hX0.2.2.1.un hO0 hO618 (hu509.tr (hu517.tr (hu528.tr (hu538.tr (hu552.tr (hu566.tr (hu589.tr hu618))))))) (by decide) (by decide), hX0.2.2.2.1.un hO0 hO618 (hu509.tr (hu517.tr (hu528.tr (hu538.tr (hu552.tr (hu566.tr (hu589.tr hu618))))))) (by decide) (by decide) (by decide), (px590.cong d617)⟩)
            · have t632 := le_no c601
              exfalso
              omega
          · have t633 := le_no c599
            refine ur_ldA rfl rfl ?_
            obtain ⟨f634, p635, t636⟩ := mf_19 hO589 hc595
            have t637 := fI_of hc595 p635
            obtain ⟨f638, p639⟩ := mf_20 hO589 hc595
            have t640 := fI_of hc595 p639
            have t641 := fI_keep (k := 19) hO552 hO566 hv566 rfl (by decide)
            refine ur_inl rfl (rcv_of hc595) (Nat.le_of_ble_eq_true rfl) (Nat.le_of_ble_eq_true rfl) (sf_X12_look hO589 (by omega) (fun w642 hr643 => ?_))
            obtain ⟨x644, rfl, t645⟩ := hr643
            show uRun _ (uCall Mt _) _ 65 (_, [(.inl x644)], _, _, _)
            refine ur_push rfl ?_
            refine ur_if2 rfl (fun c646 => ?_) (fun c646 => ?_)
            · have t647 := ne_to c646
              refine ur_ldA rfl rfl ?_
              refine ur_get rfl hc595 p597 ?_
              refine ur_if1 rfl (fun c648 => ?_) (fun c648 => ?_)
              · have t649 := le_to c648
                exfalso
                omega
              · have t650 := le_no c648
                refine ur_ldA rfl rfl ?_
                refine ur_get rfl hc595 p639 ?_
                have t651 : 0 ≤ f638.toInt ∧ f638.toInt ≤ 120 := by omega
                refine ur_ldA rfl rfl ?_
                refine ur_get rfl hc595 p635 ?_
                have z652 := any_r f638
                have z653 := any_r f634
                refine ur_if2 rfl (fun c654 => ?_) (fun c654 => ?_)
                · have t655 := le_to c654
                  refine ur_ldA rfl rfl ?_
                  refine ur_push rfl ?_
                  obtain ⟨f656, p657⟩ := mf_22 hO589 hc595
                  have t658 := fI_of hc595 p657
                  obtain ⟨f659, p660, t661⟩ := mf_23 hO589 hc595
                  have t662 := fI_of hc595 p660
                  refine ur_putM (W := [7919]) rfl hO589 hc595 (by decide) rfl (ms_19 (hO589.msh hc595) (show 0 ≤ (0 : Int32).toInt ∧ (0 : Int32).toInt ≤ 120 by omega)) (Or.inr (by decide)) (fun h664 hO664 hv664 d663 hc665 => ?_)
                  have hu664 : un [83, 84, 85, 86, 87, 7919] h589 h664 := hv664.mono (by decide)
                  have t666 := fI_of hc665 (gs_eq (v := .inl 0) p635)
                  have t667 := fI_of hc665 (gs_ne (k := 19) (v := .inl 0) p639 (by decide))
                  have t668 := fI_of hc665 (gs_ne (k := 19) (v := .inl 0) p597 (by decide))
                  have t669 := fI_of hc665 (gs_ne (k := 19) (v := .inl 0) p657 (by decide))
                  have t670 := fI_of hc665 (gs_ne (k := 19) (v := .inl 0) p660 (by decide))
                  refine ur_ldA rfl rfl ?_
                  refine ur_get rfl hc665 (gs_ne (k := 19) (v := .inl 0) p597 (by decide)) ?_
                  refine ur_if1 rfl (fun c671 => ?_) (fun c671 => ?_)
                  · have t672 := lt_to c671
                    have t673 := lm_c (d663 85 (by decide))
                    refine ur_ldI rfl rfl ?_
                    refine ur_inl rfl rfl (Nat.le_of_ble_eq_true rfl) (Nat.le_of_ble_eq_true rfl) (sg_placeFor _ (by show 0 ≤ a1.toInt ∧ a1.toInt ≤ 18; omega) (fun w674 hr675 => ?_))
                    obtain ⟨x676, rfl, t677⟩ := hr675
                    show uRun _ (uCall Mt _) _ 133 (_, [(.inl x676)], _, _, _)
                    refine ur_svIk [some (.inr (.inr (some 69))), some (.inl a1), some (.inl x676), none] rfl rfl ?_
                    have t678 : 0 ≤ x676.toInt ∧ x676.toInt ≤ 10 := by omega
                    refine ur_push rfl ?_
                    refine ur_svIk [some (.inr (.inr (some 69))), some (.inl a1), some (.inl x676), some (.inl 0)] rfl rfl ?_
                    have L680 : ∀ (m681 : Nat) (x679 : Int32) (h683 : aH) , OK h683 → un [83, 84, 85, 86, 87, 7919] h664 h683 → ((0 ≤ x679.toInt ∧ x679.toInt ≤ 130) ∧ x679.toInt ≤ fI h683 23 ∧ fI h683 23 = fI h664 23 ∧ fI h683 19 = fI h664 19) → (cp (arI h664 83) (arI h683 83) 1430 (130 * iN x676) (iN x679)) → (cp (arI h664 84) (arI h683 84) 1430 (130 * iN x676) (iN x679)) → (arI h683 85 = arI h664 85 ∧ arI h683 86 = arI h664 86 ∧ arI h683 87 = arI h664 87) → ((131 - x679.toInt).toNat) < m681 → uRun oX12_text (uCall Mt (d + 46)) Q 136 ([some (.inr (.inr (some 69))), some (.inl a1), some (.inl x676), some (.inl x679)], [], h683, kc, ks) := by
                      intro m681
                      induction m681 with
                      | zero => intro x679 h683 hO683 hu683 iv687 px684 px685 px686 mm688; omega
                      | succ m681 ih682 =>
                        intro x679 h683 hO683 hu683 iv687 px684 px685 px686 mm688
                        obtain ⟨xs690, hc689, hn691, he692⟩ := hO683.byt (hO683.fix 83 (by decide) rfl)
                        obtain ⟨xs694, hc693, hn695, he696⟩ := hO683.int (hO683.fix 84 (by decide) rfl)
                        obtain ⟨fs697, hc698⟩ := hO683.mod
                        obtain ⟨f699, p700, t701⟩ := mf_19 hO683 hc698
                        have t702 := fI_of hc698 p700
                        refine ur_ldI rfl rfl ?_
                        refine ur_ldA rfl rfl ?_
                        obtain ⟨f703, p704, t705⟩ := mf_23 hO683 hc698
                        have t706 := fI_of hc698 p704
                        refine ur_get rfl hc698 p704 ?_
                        have z707 := any_r x679
                        have z708 := any_r f703
                        refine ur_if2 rfl (fun c709 => ?_) (fun c709 => ?_)
                        · have t710 := le_to c709
                          refine ur_ldA rfl rfl ?_
                          refine ur_get rfl hc698 (mf_26 hO683 hc698) ?_
                          refine ur_ldI rfl rfl ?_
                          refine ur_ldA rfl rfl ?_
                          refine ur_get rfl hc698 (mf_26 hO683 hc698) ?_
                          refine ur_push rfl ?_
                          obtain ⟨xs712, hc711, hn713, he714⟩ := hO683.int (hO683.fix 85 (by decide) rfl)
                          refine ur_aldV rfl hc711 hn713 (by omega) (fun x715 hx716 => ?_)
                          have t717 : 0 ≤ x715.toInt ∧ x715.toInt ≤ 61 := he714 _ _ hx716
                          have t718 := lm_of hc711 hx716
                          have t719 := lm_e px686.1
                          refine ur_astV (W := [85]) (m := 12) rfl hO683 hc711 (by decide) hn713 (by omega) (by show 0 ≤ x715.toInt ∧ x715.toInt ≤ 61; omega) (Or.inr (Or.inr (wid_fix (by decide) (by decide)))) (fun h722 hO722 hv722 d720 hc721 => ?_)
                          have hu722 : un [83, 84, 85, 86, 87, 7919] h683 h722 := hv722.mono (by decide)
                          have t723 := fI_of ((d720 _ (by decide)).trans hc698) p700
                          obtain ⟨f724, p725⟩ := mf_20 hO722 ((d720 _ (by decide)).trans hc698)
                          have t726 := fI_of ((d720 _ (by decide)).trans hc698) p725
                          obtain ⟨f727, p728⟩ := mf_21 hO722 ((d720 _ (by decide)).trans hc698)
                          have t729 := fI_of ((d720 _ (by decide)).trans hc698) p728
                          obtain ⟨f730, p731⟩ := mf_22 hO722 ((d720 _ (by decide)).trans hc698)
                          have t732 := fI_of ((d720 _ (by decide)).trans hc698) p731
                          have t733 := fI_of ((d720 _ (by decide)).trans hc698) p704
                          have t734 := lnV_set hc721 (iN_lt (by omega))
                          refine ur_push rfl ?_
                          refine ur_svIk [some (.inr (.inr (some 69))), some (.inl a1), some (.inl x676), some (.inl 0)] rfl rfl ?_
                          have L736 : ∀ (m737 : Nat) (x735 : Int32) (h739 : aH) , OK h739 → un [83, 84, 85, 86, 87, 7919] h722 h739 → ((0 ≤ x735.toInt ∧ x735.toInt ≤ 61) ∧ x735.toInt ≤ lnV h739 (iN x676) ∧ lnV h739 (iN x676) = lnV h722 (iN x676) ∧ fI h739 19 = fI h722 19) → (cp (arI h722 86) (arI h739 86) 671 (61 * iN x676) (iN x735)) → (cp (arI h722 87) (arI h739 87) 671 (61 * iN x676) (iN x735)) → (arI h739 83 = arI h722 83 ∧ arI h739 84 = arI h722 84 ∧ arI h739 85 = arI h722 85) → ((62 - x735.toInt).toNat) < m737 → uRun oX12_text (uCall Mt (d + 46)) Q 209 ([some (.inr (.inr (some 69))), some (.inl a1), some (.inl x676), some (.inl x735)], [], h739, kc, ks) := by
                            intro m737
                            induction m737 with
                            | zero => intro x735 h739 hO739 hu739 iv743 px740 px741 px742 mm744; omega
                            | succ m737 ih738 =>
                              intro x735 h739 hO739 hu739 iv743 px740 px741 px742 mm744
                              obtain ⟨xs746, hc745, hn747, he748⟩ := hO739.sho (hO739.fix 86 (by decide) rfl)
                              obtain ⟨xs750, hc749, hn751, he752⟩ := hO739.sho (hO739.fix 87 (by decide) rfl)
                              obtain ⟨fs753, hc754⟩ := hO739.mod
                              obtain ⟨f755, p756, t757⟩ := mf_19 hO739 hc754
                              have t758 := fI_of hc754 p756
                              refine ur_ldI rfl rfl ?_
                              refine ur_ldA rfl rfl ?_
                              refine ur_get rfl hc754 (mf_26 hO739 hc754) ?_
                              refine ur_ldI rfl rfl ?_
                              obtain ⟨xs760, hc759, hn761, he762⟩ := hO739.int (hO739.fix 85 (by decide) rfl)
                              refine ur_aldV rfl hc759 hn761 (by omega) (fun x763 hx764 => ?_)
                              have t765 : 0 ≤ x763.toInt ∧ x763.toInt ≤ 61 := he762 _ _ hx764
                              have t766 := lnV_of (p := x676) hc759 hx764
                              have z767 := any_r x735
                              have z768 := any_r x763
                              refine ur_if2 rfl (fun c769 => ?_) (fun c769 => ?_)
                              · have t770 := le_to c769
                                refine ur_push rfl ?_
                                obtain ⟨f771, p772⟩ := mf_20 hO739 hc754
                                have t773 := fI_of hc754 p772
                                obtain ⟨f774, p775⟩ := mf_21 hO739 hc754
                                have t776 := fI_of hc754 p775
                                obtain ⟨f777, p778⟩ := mf_22 hO739 hc754
                                have t779 := fI_of hc754 p778
                                obtain ⟨f780, p781, t782⟩ := mf_23 hO739 hc754
                                have t783 := fI_of hc754 p781
                                have t784 := fI_keep (k := 19) hO683 hO722 hv722 rfl (by decide)
                                exact ur_ret rfl rfl (hQ _ _ ⟨_, rfl, ⟨by omega, by omega⟩⟩ hO739 (hu509.tr (hu517.tr (hu528.tr (hu538.tr (hu552.tr (hu566.tr (hu589.tr (hu664.tr (hu683.tr (hu722.tr hu739)))))))))) ⟨hX0.1.un hO0 hO739 (hu509.tr (hu517.tr (hu528.tr (hu538.tr (hu552.tr (hu566.tr (hu589.tr (hu664.tr (hu683.tr (hu722.tr hu739)))))))))) (by decide) (by decide), hX0.2.1.un hO0 hO739 (hu509.tr (hu517.tr (hu528.tr (hu538.tr (hu552.tr (hu566.tr (hu589.tr (hu664.tr (hu683.tr (hu722.tr hu739)))))))))) (by decide) (by decide), hX0.2.2.1.un hO0 hO739 (hu509.tr (hu517.tr (hu528.tr (hu538.tr (hu552.tr (hu566.tr (hu589.tr (hu664.tr (hu683.tr (hu722.tr hu739)))))))))) (by decide) (by decide), hX0.2.2.2.1.un hO0 hO739 (hu509.tr (hu517.tr (hu528.tr (hu538.tr (hu552.tr (hu566.tr (hu589.tr (hu664.tr (hu683.tr (hu722.tr hu739)))))))))) (by decide) (by decide) (by decide), (TX_copied (p := iN x676) (n := (lm h664).toNat) (L := (fI h664 23).toNat) (iN_lt (by omega)) hO664 (px590.cong d663) (TL.cong (px591 (by omega)) d663 (by omega)).1 (TL.cong (px591 (by omega)) d663 (by omega)).2 (by rw [px742.1, arI_c (d720 83 (by decide)), iN_eq (i := fI h664 23) (x := x679) (by omega)]; exact px684) (by rw [px742.2.1, arI_c (d720 84 (by decide)), iN_eq (i := fI h664 23) (x := x679) (by omega)]; exact px685) (by rw [← show arI h722 86 = arI h664 86 from (arI_c (d720 86 (by decide))).trans px686.2.1, iN_eq (i := lm h664) (x := x735) (by omega)]; exact px740) (by rw [← show arI h722 87 = arI h664 87 from (arI_c (d720 87 (by decide))).trans px686.2.2, iN_eq (i := lm h664) (x := x735) (by omega)]; exact px741) (fun i hi hn => by rw [px742.2.2, arI_of hc721, List.getElem?_set_ne (iN_ne hn), ← arI_of hc711, px686.1]) (by rw [px742.2.2]; exact (congrArg iN (gd_set (i := iN x676) hc721 rfl (iN_lt (by omega)))).trans (iN_eq (i := lm h664) (by omega)).symm) (by omega) (by omega))⟩)
                              · have t785 := le_no c769
                                refine ur_ldA rfl rfl ?_
                                refine ur_get rfl hc754 (mf_27 hO739 hc754) ?_
                                refine ur_push rfl ?_
                                refine ur_ldI rfl rfl ?_
                                refine ur_binV rfl (fun x786 e787 => ?_)
                                have z788 := any_r x676
                                have t789 := ti_mulR e787 l_61 (by omega) (by omega)
                                refine ur_ldI rfl rfl ?_
                                refine ur_binV rfl (fun x790 e791 => ?_)
                                have z792 := any_r x786
                                have t793 := ti_add e791 (by omega) (by omega)
                                refine ur_ldA rfl rfl ?_
                                refine ur_get rfl hc754 (mf_27 hO739 hc754) ?_
                                refine ur_push rfl ?_
                                refine ur_ldI rfl rfl ?_
                                refine ur_binV rfl (fun x794 e795 => ?_)
                                have t796 := ti_add e795 (by omega) (by omega)
                                refine ur_aldV rfl hc745 hn747 (by omega) (fun x797 hx798 => ?_)
                                have t799 : 0 ≤ x797.toInt ∧ x797.toInt ≤ 130 := he748 _ _ hx798
                                have t802 : (vp_nar .short x797).toInt = x797.toInt := nar_vs (by omega)
                                refine ur_astV (W := [86]) (m := 732) rfl hO739 hc745 (by decide) hn747 (by omega) (by show 0 ≤ (vp_nar .short x797).toInt ∧ (vp_nar .short x797).toInt ≤ 130; rw [nar_vs (by omega)]; omega) (Or.inr (Or.inr (wid_fix (by decide) (by decide)))) (fun h803 hO803 hv803 d800 hc801 => ?_)
                                have hu803 : un [83, 84, 85, 86, 87, 7919] h739 h803 := hv803.mono (by decide)
                                refine ur_ldA rfl rfl ?_
                                refine ur_get rfl ((d800 _ (by decide)).trans hc754) (mf_28 hO803 ((d800 _ (by decide)).trans hc754)) ?_
                                refine ur_push rfl ?_
                                refine ur_ldI rfl rfl ?_
                                refine ur_binV rfl (fun x804 e805 => ?_)
                                have t806 := ti_mulR e805 l_61 (by omega) (by omega)
                                refine ur_ldI rfl rfl ?_
                                refine ur_binV rfl (fun x807 e808 => ?_)
                                have z809 := any_r x804
                                have t810 := ti_add e808 (by omega) (by omega)
                                refine ur_ldA rfl rfl ?_
                                refine ur_get rfl ((d800 _ (by decide)).trans hc754) (mf_28 hO803 ((d800 _ (by decide)).trans hc754)) ?_
                                refine ur_push rfl ?_
                                refine ur_ldI rfl rfl ?_
                                refine ur_binV rfl (fun x811 e812 => ?_)
                                have t813 := ti_add e812 (by omega) (by omega)
                                refine ur_aldV rfl ((d800 _ (by decide)).trans hc749) hn751 (by omega) (fun x814 hx815 => ?_)
                                have t816 : 0 ≤ x814.toInt ∧ x814.toInt ≤ 130 := he752 _ _ hx815
                                have t819 : (vp_nar .short x814).toInt = x814.toInt := nar_vs (by omega)
                                refine ur_astV (W := [87]) (m := 732) rfl hO803 ((d800 _ (by decide)).trans hc749) (by decide) hn751 (by omega) (by show 0 ≤ (vp_nar .short x814).toInt ∧ (vp_nar .short x814).toInt ≤ 130; rw [nar_vs (by omega)]; omega) (Or.inr (Or.inr (wid_fix (by decide) (by decide)))) (fun h820 hO820 hv820 d817 hc818 => ?_)
                                have hu820 : un [83, 84, 85, 86, 87, 7919] h803 h820 := hv820.mono (by decide)
                                have t821 := lnV_c (p := iN x676) (d800 85 (by decide))
                                have t822 := lnV_c (p := iN x676) (d817 85 (by decide))
                                refine ur_incV (fun z => [some (.inr (.inr (some 69))), some (.inl a1), some (.inl x676), some (.inl z)]) rfl rfl (fun _ => rfl) (fun x823 e824 => ?_)
                                have t825 := ti_add e824 (by omega) (by omega)
                                refine ur_go rfl ?_
                                have hc826 := ((d817 _ (by decide)).trans ((d800 _ (by decide)).trans hc754))
                                have t827 := fI_of hc826 p756
                                obtain ⟨f828, p829⟩ := mf_20 hO820 hc826
                                have t830 := fI_of hc826 p829
                                obtain ⟨f831, p832⟩ := mf_21 hO820 hc826
                                have t833 := fI_of hc826 p832
                                obtain ⟨f834, p835⟩ := mf_22 hO820 hc826
                                have t836 := fI_of hc826 p835
                                obtain ⟨f837, p838, t839⟩ := mf_23 hO820 hc826
                                have t840 := fI_of hc826 p838
                                have z841 := any_r x823
                                exact ih738 x823 _ hO820 (hu739.tr (hu803.tr hu820)) (by omega) (cpS61 (p := x676) px740 hc745 ((d817 _ (by decide)).trans hc801) hx798 (vps_eq (by omega)) hn747 (by omega) (by omega) (by omega) (by omega) (by omega)) (cpS61 (p := x676) px741 hc749 hc818 hx815 (vps_eq (by omega)) hn751 (by omega) (by omega) (by omega) (by omega) (by omega)) ⟨((arI_c (d817 83 (by decide))).trans ((arI_c (d800 83 (by decide))).trans px742.1)), ((arI_c (d817 84 (by decide))).trans ((arI_c (d800 84 (by decide))).trans px742.2.1)), ((arI_c (d817 85 (by decide))).trans ((arI_c (d800 85 (by decide))).trans px742.2.2))⟩ (by omega)
                          exact L736 _ 0 _ hO722 un.rf (by omega) (by rw [show iN 0 = 0 by decide]; exact cp.z) (by rw [show iN 0 = 0 by decide]; exact cp.z) ⟨rfl, rfl, rfl⟩ (Nat.lt_succ_self _)
                        · have t842 := le_no c709
                          refine ur_ldA rfl rfl ?_
                          refine ur_get rfl hc698 (mf_24 hO683 hc698) ?_
                          refine ur_push rfl ?_
                          refine ur_ldI rfl rfl ?_
                          refine ur_binV rfl (fun x843 e844 => ?_)
                          have z845 := any_r x676
                          have t846 := ti_mulR e844 l_130 (by omega) (by omega)
                          refine ur_ldI rfl rfl ?_
                          refine ur_binV rfl (fun x847 e848 => ?_)
                          have z849 := any_r x843
                          have t850 := ti_add e848 (by omega) (by omega)
                          refine ur_ldA rfl rfl ?_
                          refine ur_get rfl hc698 (mf_24 hO683 hc698) ?_
                          refine ur_push rfl ?_
                          refine ur_ldI rfl rfl ?_
                          refine ur_binV rfl (fun x851 e852 => ?_)
                          have t853 := ti_add e852 (by omega) (by omega)
                          refine ur_aldV rfl hc689 hn691 (by omega) (fun x854 hx855 => ?_)
                          have t856 : 0 ≤ x854.toInt ∧ x854.toInt ≤ 124 := he692 _ _ hx855
                          refine ur_astV (W := [83]) (m := 1560) rfl hO683 hc689 (by decide) hn691 (by omega) (by show 0 ≤ (vp_nar .byte x854).toInt ∧ (vp_nar .byte x854).toInt ≤ 124; rw [nar_vb (by omega)]; omega) (Or.inr (Or.inr (wid_fix (by decide) (by decide)))) (fun h859 hO859 hv859 d857 hc858 => ?_)
                          have hu859 : un [83, 84, 85, 86, 87, 7919] h683 h859 := hv859.mono (by decide)
                          refine ur_ldA rfl rfl ?_
                          refine ur_get rfl ((d857 _ (by decide)).trans hc698) (mf_25 hO859 ((d857 _ (by decide)).trans hc698)) ?_
                          refine ur_push rfl ?_
                          refine ur_ldI rfl rfl ?_
                          refine ur_binV rfl (fun x860 e861 => ?_)
                          have t862 := ti_mulR e861 l_130 (by omega) (by omega)
                          refine ur_ldI rfl rfl ?_
                          refine ur_binV rfl (fun x863 e864 => ?_)
                          have z865 := any_r x860
                          have t866 := ti_add e864 (by omega) (by omega)
                          refine ur_ldA rfl rfl ?_
                          refine ur_get rfl ((d857 _ (by decide)).trans hc698) (mf_25 hO859 ((d857 _ (by decide)).trans hc698)) ?_
                          refine ur_push rfl ?_
                          refine ur_ldI rfl rfl ?_
                          refine ur_binV rfl (fun x867 e868 => ?_)
                          have t869 := ti_add e868 (by omega) (by omega)
                          refine ur_aldV rfl ((d857 _ (by decide)).trans hc693) hn695 (by omega) (fun x870 hx871 => ?_)
                          refine ur_astV (W := [84]) (m := 1560) rfl hO859 ((d857 _ (by decide)).trans hc693) (by decide) hn695 (by omega) (any_r _) (Or.inr (Or.inr (wid_fix (by decide) (by decide)))) (fun h874 hO874 hv874 d872 hc873 => ?_)
                          have hu874 : un [83, 84, 85, 86, 87, 7919] h859 h874 := hv874.mono (by decide)
                          refine ur_incV (fun z => [some (.inr (.inr (some 69))), some (.inl a1), some (.inl x676), some (.inl z)]) rfl rfl (fun _ => rfl) (fun x875 e876 => ?_)
                          have t877 := ti_add e876 (by omega) (by omega)
                          refine ur_go rfl ?_
                          have hc878 := ((d872 _ (by decide)).trans ((d857 _ (by decide)).trans hc698))
                          have t879 := fI_of hc878 p700
                          obtain ⟨f880, p881⟩ := mf_20 hO874 hc878
                          have t882 := fI_of hc878 p881
                          obtain ⟨f883, p884⟩ := mf_21 hO874 hc878
                          have t885 := fI_of hc878 p884
                          obtain ⟨f886, p887⟩ := mf_22 hO874 hc878
                          have t888 := fI_of hc878 p887
                          have t889 := fI_of hc878 p704
                          have z890 := any_r x875
                          exact ih682 x875 _ hO874 (hu683.tr (hu859.tr hu874)) (by omega) (cpS130 (p := x676) px684 hc689 ((d872 _ (by decide)).trans hc858) hx855 (vpb_eq (by omega)) hn691 (by omega) (by omega) (by omega) (by omega) (by omega)) (cpS130 (p := x676) px685 hc693 hc873 hx871 rfl hn695 (by omega) (by omega) (by omega) (by omega) (by omega)) ⟨((arI_c (d872 85 (by decide))).trans ((arI_c (d857 85 (by decide))).trans px686.1)), ((arI_c (d872 86 (by decide))).trans ((arI_c (d857 86 (by decide))).trans px686.2.1)), ((arI_c (d872 87 (by decide))).trans ((arI_c (d857 87 (by decide))).trans px686.2.2))⟩ (by omega)
                    exact L680 _ 0 _ hO664 un.rf (by omega) (by rw [show iN 0 = 0 by decide]; exact cp.z) (by rw [show iN 0 = 0 by decide]; exact cp.z) ⟨rfl, rfl, rfl⟩ (Nat.lt_succ_self _)
                  · have t891 := lt_no c671
                    exfalso
                    omega
                · have t892 := le_no c654
                  refine ur_ldA rfl rfl ?_
                  obtain ⟨f893, p894⟩ := mf_22 hO589 hc595
                  have t895 := fI_of hc595 p894
                  obtain ⟨f896, p897, t898⟩ := mf_23 hO589 hc595
                  have t899 := fI_of hc595 p897
                  refine ur_inl rfl (rcv_of hc595) (Nat.le_of_ble_eq_true rfl) (Nat.le_of_ble_eq_true rfl) (sf_X12_wrong hO589  (fun w900 h904 hr901 hO904 hv904 hp902 hp903 => ?_))
                  have hu904 : un [83, 84, 85, 86, 87, 7919] h589 h904 := hv904.mono (by decide)
                  subst hr901
                  show uRun _ (uCall Mt _) _ 109 (_, [], _, _, _)
                  obtain ⟨fs905, hc906⟩ := hO904.mod
                  obtain ⟨f907, p908, t909⟩ := mf_19 hO904 hc906
                  have t910 := fI_of hc906 p908
                  obtain ⟨f911, p912⟩ := mf_20 hO904 hc906
                  have t913 := fI_of hc906 p912
                  obtain ⟨f914, p915⟩ := mf_21 hO904 hc906
                  have t916 := fI_of hc906 p915
                  obtain ⟨f917, p918⟩ := mf_22 hO904 hc906
                  have t919 := fI_of hc906 p918
                  obtain ⟨f920, p921, t922⟩ := mf_23 hO904 hc906
                  have t923 := fI_of hc906 p921
                  refine ur_ldA rfl rfl ?_
                  refine ur_push rfl ?_
                  refine ur_putM (W := [7919]) rfl hO904 hc906 (by decide) rfl (ms_19 (hO904.msh hc906) (show 0 ≤ (0 : Int32).toInt ∧ (0 : Int32).toInt ≤ 120 by omega)) (Or.inr (by decide)) (fun h925 hO925 hv925 d924 hc926 => ?_)
                  have hu925 : un [83, 84, 85, 86, 87, 7919] h904 h925 := hv925.mono (by decide)
                  have t927 := fI_of hc926 (gs_eq (v := .inl 0) p908)
                  have t928 := fI_of hc926 (gs_ne (k := 19) (v := .inl 0) p912 (by decide))
                  have t929 := fI_of hc926 (gs_ne (k := 19) (v := .inl 0) p915 (by decide))
                  have t930 := fI_of hc926 (gs_ne (k := 19) (v := .inl 0) p918 (by decide))
                  have t931 := fI_of hc926 (gs_ne (k := 19) (v := .inl 0) p921 (by decide))
                  refine ur_ldA rfl rfl ?_
                  refine ur_get rfl hc926 (gs_ne (k := 19) (v := .inl 0) p915 (by decide)) ?_
                  refine ur_if1 rfl (fun c932 => ?_) (fun c932 => ?_)
                  · have t933 := lt_to c932
                    exfalso
                    omega
                  · have t934 := lt_no c932
                    refine ur_push rfl ?_
                    refine ur_ldA rfl rfl ?_
                    refine ur_get rfl hc926 (gs_ne (k := 19) (v := .inl 0) p915 (by decide)) ?_
                    refine ur_binV rfl (fun x935 e936 => ?_)
                    have z937 := any_r f914
                    have t938 := fI_keep (k := 19) hO589 hO904 hv904 rfl (by decide)
                    exact ur_ret rfl rfl (hQ _ _ ⟨_, rfl, ⟨by omega, by omega⟩⟩ hO925 (hu509.tr (hu517.tr (hu528.tr (hu538.tr (hu552.tr (hu566.tr (hu589.tr (hu904.tr hu925)))))))) ⟨hX0.1.un hO0 hO925 (hu509.tr (hu517.tr (hu528.tr (hu538.tr (hu552.tr (hu566.tr (hu589.tr (hu904.tr hu925)))))))) (by decide) (by decide), hX0.2.1.un hO0 hO925 (hu509.tr (hu517.tr (hu528.tr (hu538.tr (hu552.tr (hu566.tr (hu589.tr (hu904.tr hu925)))))))) (by decide) (by decide), hX0.2.2.1.un hO0 hO925 (hu509.tr (hu517.tr (hu528.tr (hu538.tr (hu552.tr (hu566.tr (hu589.tr (hu904.tr hu925)))))))) (by decide) (by decide), hX0.2.2.2.1.un hO0 hO925 (hu509.tr (hu517.tr (hu528.tr (hu538.tr (hu552.tr (hu566.tr (hu589.tr (hu904.tr hu925)))))))) (by decide) (by decide) (by decide), ((TX.un px590 hO589 hv904 (by decide)).cong d924)⟩)
            · have t939 := ne_no c646
              refine ur_ldA rfl rfl ?_
              refine ur_dup rfl rfl ?_
              refine ur_get rfl hc595 p639 ?_
              have t940 : 0 ≤ f638.toInt ∧ f638.toInt ≤ 120 := by omega
              refine ur_push rfl ?_
              refine ur_binV rfl (fun x941 e942 => ?_)
              have z943 := any_r f638
              have t944 := ti_add e942 (by omega) (by omega)
              obtain ⟨f945, p946⟩ := mf_22 hO589 hc595
              have t947 := fI_of hc595 p946
              obtain ⟨f948, p949, t950⟩ := mf_23 hO589 hc595
              have t951 := fI_of hc595 p949
              refine ur_putM (W := []) rfl hO589 hc595 (by decide) rfl (ms_20 (hO589.msh hc595)) (Or.inl rfl) (fun h953 hO953 hv953 d952 hc954 => ?_)
              have hu953 : un [83, 84, 85, 86, 87, 7919] h589 h953 := hv953.mono (by decide)
              have t955 := fI_of hc954 (gs_ne (k := 20) (v := .inl x941) p635 (by decide))
              have t956 := fI_of hc954 (gs_eq (v := .inl x941) p639)
              have t957 := fI_of hc954 (gs_ne (k := 20) (v := .inl x941) p597 (by decide))
              have t958 := fI_of hc954 (gs_ne (k := 20) (v := .inl x941) p946 (by decide))
              have t959 := fI_of hc954 (gs_ne (k := 20) (v := .inl x941) p949 (by decide))
              have t960 := lm_c (d952 85 (by decide))
              refine ur_ldA rfl rfl ?_
              refine ur_inl rfl (rcv_of hc954) (Nat.le_of_ble_eq_true rfl) (Nat.le_of_ble_eq_true rfl) (sf_X12_line hO953 (by omega) (by omega) (by omega) (px590.cong d952) (TL.cong (px591 (by omega)) d952 (by omega)) (fun w961 h967 hr962 hO967 hv967 hp963 hp964 hp965 hp966 => ?_))
              have hu967 : un [83, 84, 85, 86, 87, 7919] h953 h967 := hv967.mono (by decide)
              subst hr962
              show uRun _ (uCall Mt _) _ 84 (_, [], _, _, _)
              obtain ⟨fs968, hc969⟩ := hO967.mod
              obtain ⟨f970, p971, t972⟩ := mf_19 hO967 hc969
              have t973 := fI_of hc969 p971
              obtain ⟨f974, p975⟩ := mf_20 hO967 hc969
              have t976 := fI_of hc969 p975
              obtain ⟨f977, p978⟩ := mf_21 hO967 hc969
              have t979 := fI_of hc969 p978
              obtain ⟨f980, p981⟩ := mf_22 hO967 hc969
              have t982 := fI_of hc969 p981
              obtain ⟨f983, p984, t985⟩ := mf_23 hO967 hc969
              have t986 := fI_of hc969 p984
              refine ur_go rfl ?_
              exact ih588  _ hO967 (hu589.tr (hu953.tr hu967)) (by omega) hp965 hp966 (by omega)
      exact L586 _  _ hO566 un.rf (by omega) hp564 hp565 (Nat.lt_succ_self _)
    · have t987 := wi_noL c506 l_10 l_18
      refine ur_push rfl ?_
      exact ur_ret rfl rfl (hQ _ _ ⟨_, rfl, ⟨by omega, by omega⟩⟩ hO0 un.rf hX0)
end CTR
