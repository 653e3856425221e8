/-! CONTRACTS of the class, printed by program -/
section CT1
set_option maxRecDepth 20000 in
set_option maxHeartbeats 4000000 in
theorem sf_X0_clear {d kc ks : Nat} {h0 : aH} {Q : Option aV → aH → Prop} (hO0 : OK h0)  (hQ : ∀ r h', (r = none) → OK h' → un [6501] h0 h' → (fO h' 55 1 = 0) → Q r h') : uCall Mt (d + 1) 1 [(.inr (.inr (some 55)))] h0 kc ks Q := by
  have l_0 : ((0) : Int32).toInt = 0 := by decide
  refine uc_ink [some (.inr (.inr (some 55)))] mt_1 (Nat.le_of_ble_eq_true rfl) rfl ?_
  obtain ⟨f2, hc1, k3⟩ := ok_55 hO0
  have t4 := fO_of (k := 1) hc1 rfl
  refine ur_ldA rfl rfl ?_
  refine ur_push rfl ?_
  refine ur_putV (W := [6501]) (fs' := [(.inr (.inr (some 56))), (.inl 0)]) rfl hO0 hc1 (Nat.le_of_ble_eq_true rfl) rfl rfl ⟨rfl, _, rfl, by omega⟩ rfl (Or.inr (by show 1000 + 100 * wid 55 (100, 2) + 1 ∈ _; rw [(wid_f (by decide))]; decide)) (fun h6 hO6 hu6 d5 hc7 => ?_)
  have t8 := fO_of (k := 1) hc7 rfl
  exact ur_ret0 rfl (hQ _ _ rfl hO6 hu6 (by omega))

set_option maxRecDepth 20000 in
set_option maxHeartbeats 4000000 in
theorem sf_X0_bodyAt {d kc ks : Nat} {h0 : aH} {Q : Option aV → aH → Prop} (hO0 : OK h0) (a1 : Int32) (hQ : ∀ r, (∃ x, r = some (.inl x)) → Q r h0) : uCall Mt (d + 1) 2 [(.inr (.inr (some 55))), (.inl a1)] h0 kc ks Q := by
  have l_m1 : ((-1) : Int32).toInt = -1 := by decide
  have l_0 : ((0) : Int32).toInt = 0 := by decide
  have l_24 : ((24) : Int32).toInt = 24 := by decide
  refine uc_ink [some (.inr (.inr (some 55))), some (.inl a1)] mt_2 (Nat.le_of_ble_eq_true rfl) rfl ?_
  refine ur_ldI rfl rfl ?_
  refine ur_if1 rfl (fun c1 => ?_) (fun c1 => ?_)
  · have t2 := lt_to c1
    refine ur_push rfl ?_
    exact ur_ret rfl rfl (hQ _ ⟨_, rfl⟩ )
  · have t3 := lt_no c1
    refine ur_ldI rfl rfl ?_
    refine ur_ldA rfl rfl ?_
    obtain ⟨f5, hc4, k6⟩ := ok_55 hO0
    refine ur_get rfl hc4 rfl ?_
    have z7 := any_r a1
    have z8 := any_r f5
    refine ur_if2 rfl (fun c9 => ?_) (fun c9 => ?_)
    · have t10 := le_to c9
      refine ur_push rfl ?_
      exact ur_ret rfl rfl (hQ _ ⟨_, rfl⟩ )
    · have t11 := le_no c9
      refine ur_ldI rfl rfl ?_
      refine ur_push rfl ?_
      refine ur_if2 rfl (fun c12 => ?_) (fun c12 => ?_)
      · have t13 := le_to c12
        refine ur_push rfl ?_
        exact ur_ret rfl rfl (hQ _ ⟨_, rfl⟩ )
      · have t14 := le_no c12
        refine ur_ldA rfl rfl ?_
        refine ur_get rfl hc4 rfl ?_
        refine ur_ldI rfl rfl ?_
        obtain ⟨xs16, hc15, hn17, he18⟩ := hO0.int (hO0.fix 56 (by decide) rfl)
        refine ur_aldV rfl hc15 hn17 (by omega) (fun x19 hx20 => ?_)
        refine ur_go rfl ?_
        exact ur_ret rfl rfl (hQ _ ⟨_, rfl⟩ )

set_option maxRecDepth 20000 in
set_option maxHeartbeats 4000000 in
theorem sf_X1_wordAt {d kc ks : Nat} {h0 : aH} {Q : Option aV → aH → Prop} (hO0 : OK h0) (a1 : Int32) (hQ : ∀ r, (∃ o, r = some (.inr (.inr o)) ∧ ∀ z, o = some z → 114 ≤ z ∧ tg h0 z = (110, 13)) → Q r h0) : uCall Mt (d + 1) 8 [(.inr (.inr (some 15))), (.inl a1)] h0 kc ks Q := by
  have l_0 : ((0) : Int32).toInt = 0 := by decide
  refine uc_ink [some (.inr (.inr (some 15))), some (.inl a1)] mt_8 (Nat.le_of_ble_eq_true rfl) rfl ?_
  refine ur_ldI rfl rfl ?_
  refine ur_if1 rfl (fun c1 => ?_) (fun c1 => ?_)
  · have t2 := lt_to c1
    refine ur_push rfl ?_
    exact ur_ret rfl rfl (hQ _ ⟨_, rfl, fun _ e => nomatch e⟩ )
  · have t3 := lt_no c1
    refine ur_ldI rfl rfl ?_
    refine ur_ldA rfl rfl ?_
    obtain ⟨f5, f6, f7, f8, hc4, k9⟩ := ok_15 hO0
    refine ur_get rfl hc4 rfl ?_
    have z10 := any_r a1
    have z11 := any_r f5
    refine ur_if2 rfl (fun c12 => ?_) (fun c12 => ?_)
    · have t13 := le_to c12
      refine ur_push rfl ?_
      exact ur_ret rfl rfl (hQ _ ⟨_, rfl, fun _ e => nomatch e⟩ )
    · have t14 := le_no c12
      refine ur_ldA rfl rfl ?_
      refine ur_get rfl hc4 rfl ?_
      refine ur_ldI rfl rfl ?_
      obtain ⟨xs16, hc15, hn17, he18⟩ := hO0.wor (hO0.fix 16 (by decide) rfl)
      refine ur_aldAV rfl hc15 hn17 (by omega) (fun o19 hx20 => ?_)
      have k21 : ∀ z, o19 = some z → 114 ≤ z ∧ tg h0 z = (110, 13) := fun z e => he18 _ z (by rw [hx20, e])
      refine ur_go rfl ?_
      exact ur_ret rfl rfl (hQ _ ⟨_, rfl, k21⟩ )

set_option maxRecDepth 20000 in
set_option maxHeartbeats 4000000 in
theorem sf_X1_reckoningOf {d kc ks : Nat} {h0 : aH} {Q : Option aV → aH → Prop} (hO0 : OK h0) (a1 : Int32) (hQ : ∀ r, (∃ o, r = some (.inr (.inr o)) ∧ ∀ z, o = some z → z < 114 ∧ tg h0 z = (109, 2)) → Q r h0) : uCall Mt (d + 3) 7 [(.inr (.inr (some 15))), (.inl a1)] h0 kc ks Q := by
  have l_0 : ((0) : Int32).toInt = 0 := by decide
  have l_8 : ((8) : Int32).toInt = 8 := by decide
  refine uc_ink [some (.inr (.inr (some 15))), some (.inl a1)] mt_7 (Nat.le_of_ble_eq_true rfl) rfl ?_
  refine ur_ldI rfl rfl ?_
  refine ur_callv rfl rfl (Nat.le_of_ble_eq_true rfl) (Nat.le_of_ble_eq_true rfl) rfl (sp_isPpl _ _) ?_
  refine ur_eqB rfl (fun c3 => ?_) (fun c3 => ?_)
  · have t4 := wi_noL c3 l_0 l_8
    refine ur_push rfl ?_
    exact ur_ret rfl rfl (hQ _ ⟨_, rfl, fun _ e => nomatch e⟩ )
  · have t5 := wi_toL c3 l_0 l_8
    refine ur_ldA rfl rfl ?_
    obtain ⟨f7, f8, f9, f10, hc6, k11⟩ := ok_15 hO0
    refine ur_get rfl hc6 rfl ?_
    refine ur_ldI rfl rfl ?_
    refine ur_txa rfl hO0 (by omega) (fun r12 k13 => ?_)
    refine ur_go rfl ?_
    exact ur_ret rfl rfl (hQ _ ⟨_, rfl, fun _ e => by cases e; exact ⟨k13.1, k13.2⟩⟩ )

set_option maxRecDepth 20000 in
set_option maxHeartbeats 4000000 in
theorem sf_X1_isToldReign {d kc ks : Nat} {h0 : aH} {Q : Option aV → aH → Prop} (hO0 : OK h0) (a1 : Int32) (hQ : ∀ r, (∃ q, r = some (.inl (bi q)) ∧ (q = true → 0 ≤ a1.toInt ∧ a1.toInt ≤ 19)) → Q r h0) : uCall Mt (d + 2) 9 [(.inr (.inr (some 15))), (.inl a1)] h0 kc ks Q := by
  have l_m1 : ((-1) : Int32).toInt = -1 := by decide
  have l_0 : ((0) : Int32).toInt = 0 := by decide
  have l_1 : ((1) : Int32).toInt = 1 := by decide
  have l_19 : ((19) : Int32).toInt = 19 := by decide
  refine uc_ink [some (.inr (.inr (some 15))), some (.inl a1)] mt_9 (Nat.le_of_ble_eq_true rfl) rfl ?_
  refine ur_ldI rfl rfl ?_
  refine ur_push rfl ?_
  refine ur_push rfl ?_
  refine ur_callv rfl rfl (Nat.le_of_ble_eq_true rfl) (Nat.le_of_ble_eq_true rfl) rfl (sp_within _ _ _ _ _) ?_
  refine ur_eqB rfl (fun c3 => ?_) (fun c3 => ?_)
  · have t4 := wi_noL c3 l_0 l_19
    refine ur_push rfl ?_
    exact ur_ret rfl rfl (hQ _ ⟨false, rfl, fun e => absurd e (by decide)⟩ )
  · have t5 := wi_toL c3 l_0 l_19
    refine ur_ldA rfl rfl ?_
    obtain ⟨f7, f8, f9, f10, hc6, k11⟩ := ok_15 hO0
    refine ur_get rfl hc6 rfl ?_
    refine ur_ldI rfl rfl ?_
    obtain ⟨xs13, hc12, hn14, he15⟩ := hO0.int (hO0.fix 17 (by decide) rfl)
    refine ur_aldV rfl hc12 hn14 (by omega) (fun x16 hx17 => ?_)
    refine ur_push rfl ?_
    refine ur_if2 rfl (fun c18 => ?_) (fun c18 => ?_)
    · have t19 := eq_to c18
      refine ur_push rfl ?_
      exact ur_ret rfl rfl (hQ _ ⟨false, rfl, fun e => absurd e (by decide)⟩ )
    · have t20 := eq_no c18
      refine ur_push rfl ?_
      refine ur_go rfl ?_
      exact ur_ret rfl rfl (hQ _ ⟨true, rfl, fun _ => by omega⟩ )

set_option maxRecDepth 20000 in
set_option maxHeartbeats 4000000 in
theorem sf_X9_isTold {d kc ks : Nat} {h0 : aH} {Q : Option aV → aH → Prop} (hO0 : OK h0) {a0 : Nat} (t0 : tg h0 a0 = (109, 2)) (hQ : ∀ r, (∃ q, r = some (.inl (bi q))) → Q r h0) : uCall Mt (d + 1) 109 [(.inr (.inr (some a0)))] h0 kc ks Q := by
  have l_0 : ((0) : Int32).toInt = 0 := by decide
  have l_1 : ((1) : Int32).toInt = 1 := by decide
  refine uc_ink [some (.inr (.inr (some a0)))] mt_109 (Nat.le_of_ble_eq_true rfl) rfl ?_
  refine ur_ldA rfl rfl ?_
  obtain ⟨g5, f2, hc1, k3, k4⟩ := hO0.text t0
  refine ur_get rfl hc1 rfl ?_
  refine ur_if1 rfl (fun c6 => ?_) (fun c6 => ?_)
  · have t7 := le_to c6
    refine ur_push rfl ?_
    exact ur_ret rfl rfl (hQ _ ⟨false, rfl⟩ )
  · have t8 := le_no c6
    refine ur_push rfl ?_
    refine ur_go rfl ?_
    exact ur_ret rfl rfl (hQ _ ⟨true, rfl⟩ )

set_option maxRecDepth 20000 in
set_option maxHeartbeats 4000000 in
theorem sf_X9_step {d kc ks : Nat} {h0 : aH} {Q : Option aV → aH → Prop} (a0 : Int32) (a1 : Int32) (hQ : ∀ r, (∃ x, r = some (.inl x)) → Q r h0) : uCall Mt (d + 1) 111 [(.inl a0), (.inl a1)] h0 kc ks Q := by
  have l_4 : ((4) : Int32).toInt = 4 := by decide
  refine uc_ink [some (.inl a0), some (.inl a1)] mt_111 (Nat.le_of_ble_eq_true rfl) rfl ?_
  refine ur_ldI rfl rfl ?_
  refine ur_push rfl ?_
  refine ur_binV rfl (fun x1 e2 => ?_)
  refine ur_ldI rfl rfl ?_
  refine ur_binV rfl (fun x3 e4 => ?_)
  exact ur_ret rfl rfl (hQ _ ⟨_, rfl⟩ )

set_option maxRecDepth 20000 in
set_option maxHeartbeats 4000000 in
theorem sf_X9_joined {d kc ks : Nat} {h0 : aH} {Q : Option aV → aH → Prop} (a0 : Int32) (a1 : Int32) (a2 : Int32) (hQ : ∀ r, (∃ x, r = some (.inl x)) → Q r h0) : uCall Mt (d + 1) 113 [(.inl a0), (.inl a1), (.inl a2)] h0 kc ks Q := by
  have l_0 : ((0) : Int32).toInt = 0 := by decide
  have l_1 : ((1) : Int32).toInt = 1 := by decide
  refine uc_ink [some (.inl a0), some (.inl a1), some (.inl a2)] mt_113 (Nat.le_of_ble_eq_true rfl) rfl ?_
  refine ur_ldI rfl rfl ?_
  rcases (show (a0.toInt < 4 ∨ 13 < a0.toInt) ∨ a0.toInt = 4 ∨ a0.toInt = 5 ∨ a0.toInt = 6 ∨ a0.toInt = 7 ∨ a0.toInt = 8 ∨ a0.toInt = 9 ∨ a0.toInt = 10 ∨ a0.toInt = 11 ∨ a0.toInt = 12 ∨ a0.toInt = 13 by omega) with t1 | t1 | t1 | t1 | t1 | t1 | t1 | t1 | t1 | t1 | t1
  · refine ur_tabO rfl (by show a0.toInt < 4 ∨ 4 + 10 ≤ a0.toInt; omega) ?_
    refine ur_push rfl ?_
    exact ur_ret rfl rfl (hQ _ ⟨_, rfl⟩ )
  · refine ur_tabI rfl (by omega) (by rw [t1]; rfl) ?_
    refine ur_ldI rfl rfl ?_
    refine ur_ldI rfl rfl ?_
    refine ur_binV rfl (fun x2 e3 => ?_)
    have z4 := any_r a1
    have z5 := any_r a2
    exact ur_ret rfl rfl (hQ _ ⟨_, rfl⟩ )
  · refine ur_tabI rfl (by omega) (by rw [t1]; rfl) ?_
    refine ur_ldI rfl rfl ?_
    refine ur_if1 rfl (fun c6 => ?_) (fun c6 => ?_)
    · have t7 := ne_to c6
      refine ur_ldI rfl rfl ?_
      refine ur_ldI rfl rfl ?_
      refine ur_divV rfl (of_decide_eq_true c6) (fun x8 e9 => ?_)
      have z10 := any_r a1
      have z11 := any_r a2
      exact ur_ret rfl rfl (hQ _ ⟨_, rfl⟩ )
    · have t12 := ne_no c6
      refine ur_push rfl ?_
      refine ur_go rfl ?_
      exact ur_ret rfl rfl (hQ _ ⟨_, rfl⟩ )
  · refine ur_tabI rfl (by omega) (by rw [t1]; rfl) ?_
    refine ur_ldI rfl rfl ?_
    refine ur_if1 rfl (fun c13 => ?_) (fun c13 => ?_)
    · have t14 := ne_to c13
      refine ur_ldI rfl rfl ?_
      refine ur_ldI rfl rfl ?_
      refine ur_divV rfl (of_decide_eq_true c13) (fun x15 e16 => ?_)
      have z17 := any_r a1
      have z18 := any_r a2
      exact ur_ret rfl rfl (hQ _ ⟨_, rfl⟩ )
    · have t19 := ne_no c13
      refine ur_push rfl ?_
      refine ur_go rfl ?_
      exact ur_ret rfl rfl (hQ _ ⟨_, rfl⟩ )
  · refine ur_tabI rfl (by omega) (by rw [t1]; rfl) ?_
    refine ur_ldI rfl rfl ?_
    refine ur_ldI rfl rfl ?_
    refine ur_binV rfl (fun x20 e21 => ?_)
    have z22 := any_r a1
    have z23 := any_r a2
    exact ur_ret rfl rfl (hQ _ ⟨_, rfl⟩ )
  · refine ur_tabI rfl (by omega) (by rw [t1]; rfl) ?_
    refine ur_ldI rfl rfl ?_
    refine ur_ldI rfl rfl ?_
    refine ur_binV rfl (fun x24 e25 => ?_)
    have z26 := any_r a1
    have z27 := any_r a2
    exact ur_ret rfl rfl (hQ _ ⟨_, rfl⟩ )
  · refine ur_tabI rfl (by omega) (by rw [t1]; rfl) ?_
    refine ur_ldI rfl rfl ?_
    refine ur_ldI rfl rfl ?_
    have z28 := any_r a1
    have z29 := any_r a2
    refine ur_if2 rfl (fun c30 => ?_) (fun c30 => ?_)
    · have t31 := le_to c30
      refine ur_push rfl ?_
      exact ur_ret rfl rfl (hQ _ ⟨_, rfl⟩ )
    · have t32 := le_no c30
      refine ur_push rfl ?_
      refine ur_go rfl ?_
      exact ur_ret rfl rfl (hQ _ ⟨_, rfl⟩ )
  · refine ur_tabI rfl (by omega) (by rw [t1]; rfl) ?_
    refine ur_ldI rfl rfl ?_
    refine ur_ldI rfl rfl ?_
    have z33 := any_r a1
    have z34 := any_r a2
    refine ur_if2 rfl (fun c35 => ?_) (fun c35 => ?_)
    · have t36 := ne_to c35
      refine ur_push rfl ?_
      exact ur_ret rfl rfl (hQ _ ⟨_, rfl⟩ )
    · have t37 := ne_no c35
      refine ur_push rfl ?_
      refine ur_go rfl ?_
      exact ur_ret rfl rfl (hQ _ ⟨_, rfl⟩ )
  · refine ur_tabI rfl (by omega) (by rw [t1]; rfl) ?_
    refine ur_ldI rfl rfl ?_
    refine ur_ldI rfl rfl ?_
    have z38 := any_r a1
    have z39 := any_r a2
    refine ur_if2 rfl (fun c40 => ?_) (fun c40 => ?_)
    · have t41 := le_to c40
      refine ur_push rfl ?_
      exact ur_ret rfl rfl (hQ _ ⟨_, rfl⟩ )
    · have t42 := le_no c40
      refine ur_push rfl ?_
      refine ur_go rfl ?_
      exact ur_ret rfl rfl (hQ _ ⟨_, rfl⟩ )
  · refine ur_tabI rfl (by omega) (by rw [t1]; rfl) ?_
    refine ur_ldI rfl rfl ?_
    refine ur_if1 rfl (fun c43 => ?_) (fun c43 => ?_)
    · have t44 := eq_to c43
      refine ur_push rfl ?_
      exact ur_ret rfl rfl (hQ _ ⟨_, rfl⟩ )
    · have t45 := eq_no c43
      refine ur_ldI rfl rfl ?_
      refine ur_if1 rfl (fun c46 => ?_) (fun c46 => ?_)
      · have t47 := eq_to c46
        refine ur_push rfl ?_
        exact ur_ret rfl rfl (hQ _ ⟨_, rfl⟩ )
      · have t48 := eq_no c46
        refine ur_push rfl ?_
        refine ur_go rfl ?_
        exact ur_ret rfl rfl (hQ _ ⟨_, rfl⟩ )
  · refine ur_tabI rfl (by omega) (by rw [t1]; rfl) ?_
    refine ur_ldI rfl rfl ?_
    refine ur_if1 rfl (fun c49 => ?_) (fun c49 => ?_)
    · have t50 := ne_to c49
      refine ur_push rfl ?_
      refine ur_go rfl ?_
      exact ur_ret rfl rfl (hQ _ ⟨_, rfl⟩ )
    · have t51 := ne_no c49
      refine ur_ldI rfl rfl ?_
      refine ur_if1 rfl (fun c52 => ?_) (fun c52 => ?_)
      · have t53 := eq_to c52
        refine ur_push rfl ?_
        exact ur_ret rfl rfl (hQ _ ⟨_, rfl⟩ )
      · have t54 := eq_no c52
        refine ur_push rfl ?_
        refine ur_go rfl ?_
        exact ur_ret rfl rfl (hQ _ ⟨_, rfl⟩ )

set_option maxRecDepth 20000 in
set_option maxHeartbeats 4000000 in
theorem sf_X10_dateIt {d kc ks : Nat} {h0 : aH} {Q : Option aV → aH → Prop} (hO0 : OK h0) {a0 : Nat} (g0 : 114 ≤ a0) (t0 : tg h0 a0 = (110, 13)) (a1 : Int32) (a2 : Int32) (a3 : Int32) (hQ : ∀ r h', (r = none) → OK h' → un [22005, 22006, 22007] h0 h' → Q r h') : uCall Mt (d + 1) 115 [(.inr (.inr (some a0))), (.inl a1), (.inl a2), (.inl a3)] h0 kc ks Q := by
  refine uc_ink [some (.inr (.inr (some a0))), some (.inl a1), some (.inl a2), some (.inl a3)] mt_115 (Nat.le_of_ble_eq_true rfl) rfl ?_
  refine ur_ldA rfl rfl ?_
  refine ur_ldI rfl rfl ?_
  obtain ⟨g17, f2, f3, f4, f5, f6, f7, f8, f9, f10, o14, f11, f12, f13, hc1, k15, k16⟩ := hO0.word t0
  refine ur_putV (W := [22005, 22006, 22007]) (fs' := [(.inl f2), (.inl f3), (.inl f4), (.inl f5), (.inl f6), (.inl a1), (.inl f8), (.inl f9), (.inl f10), (.inr (.inr o14)), (.inl f11), (.inl f12), (.inl f13)]) rfl hO0 hc1 (Nat.le_of_ble_eq_true rfl) rfl rfl ⟨g17, _, _, _, _, _, _, _, _, _, _, _, _, _, rfl, k15, by omega⟩ rfl (Or.inr (by show 1000 + 100 * wid a0 (110, 13) + 5 ∈ _; rw [(wid_w g17)]; decide)) (fun h19 hO19 hu19 d18 hc20 => ?_)
  refine ur_ldA rfl rfl ?_
  refine ur_ldI rfl rfl ?_
  refine ur_putV (W := [22005, 22006, 22007]) (fs' := [(.inl f2), (.inl f3), (.inl f4), (.inl f5), (.inl f6), (.inl a1), (.inl a2), (.inl f9), (.inl f10), (.inr (.inr o14)), (.inl f11), (.inl f12), (.inl f13)]) rfl hO19 hc20 (Nat.le_of_ble_eq_true rfl) rfl rfl ⟨g17, _, _, _, _, _, _, _, _, _, _, _, _, _, rfl, (fun z e => ⟨(k15 z e).1, (hu19.tm (k15 z e).2 (by decide))⟩), by omega⟩ rfl (Or.inr (by show 1000 + 100 * wid a0 (110, 13) + 6 ∈ _; rw [(wid_w g17)]; decide)) (fun h22 hO22 hu22 d21 hc23 => ?_)
  refine ur_ldA rfl rfl ?_
  refine ur_ldI rfl rfl ?_
  refine ur_putV (W := [22005, 22006, 22007]) (fs' := [(.inl f2), (.inl f3), (.inl f4), (.inl f5), (.inl f6), (.inl a1), (.inl a2), (.inl a3), (.inl f10), (.inr (.inr o14)), (.inl f11), (.inl f12), (.inl f13)]) rfl hO22 hc23 (Nat.le_of_ble_eq_true rfl) rfl rfl ⟨g17, _, _, _, _, _, _, _, _, _, _, _, _, _, rfl, (fun z e => ⟨(k15 z e).1, (hu22.tm (hu19.tm (k15 z e).2 (by decide)) (by decide))⟩), by omega⟩ rfl (Or.inr (by show 1000 + 100 * wid a0 (110, 13) + 7 ∈ _; rw [(wid_w g17)]; decide)) (fun h25 hO25 hu25 d24 hc26 => ?_)
  exact ur_ret0 rfl (hQ _ _ rfl hO25 (hu19.tr (hu22.tr hu25)))

set_option maxRecDepth 20000 in
set_option maxHeartbeats 4000000 in
theorem sf_X10_copyFrom {d kc ks : Nat} {h0 : aH} {Q : Option aV → aH → Prop} (hO0 : OK h0) {a0 : Nat} (g0 : 114 ≤ a0) (t0 : tg h0 a0 = (110, 13)) {a1 : Nat} (g1 : 114 ≤ a1) (t1 : tg h0 a1 = (110, 13)) (hQ : ∀ r h', (r = none) → OK h' → un [22009] h0 h' → Q r h') : uCall Mt (d + 1) 116 [(.inr (.inr (some a0))), (.inr (.inr (some a1)))] h0 kc ks Q := by
  refine uc_ink [some (.inr (.inr (some a0))), some (.inr (.inr (some a1)))] mt_116 (Nat.le_of_ble_eq_true rfl) rfl ?_
  refine ur_ldA rfl rfl ?_
  refine ur_ldA rfl rfl ?_
  obtain ⟨g17, f2, f3, f4, f5, f6, f7, f8, f9, f10, o14, f11, f12, f13, hc1, k15, k16⟩ := hO0.word t0
  refine ur_putV (W := [22009]) (fs' := [(.inl f2), (.inl f3), (.inl f4), (.inl f5), (.inl f6), (.inl f7), (.inl f8), (.inl f9), (.inl f10), (.inr (.inr (some a1))), (.inl f11), (.inl f12), (.inl f13)]) rfl hO0 hc1 (Nat.le_of_ble_eq_true rfl) rfl rfl ⟨g17, _, _, _, _, _, _, _, _, _, _, _, _, _, rfl, (fun _ e => by cases e; exact ⟨g1, t1⟩), by omega⟩ rfl (Or.inr (by show 1000 + 100 * wid a0 (110, 13) + 9 ∈ _; rw [(wid_w g17)]; decide)) (fun h19 hO19 hu19 d18 hc20 => ?_)
  exact ur_ret0 rfl (hQ _ _ rfl hO19 hu19)

set_option maxRecDepth 20000 in
set_option maxHeartbeats 4000000 in
theorem sf_X10_rootWord {d kc ks : Nat} {h0 : aH} {Q : Option aV → aH → Prop} (hO0 : OK h0) {a0 : Nat} (g0 : 114 ≤ a0) (t0 : tg h0 a0 = (110, 13)) (hQ : ∀ r, (∃ z, r = some (.inr (.inr (some z))) ∧ 114 ≤ z ∧ tg h0 z = (110, 13)) → Q r h0) : uCall Mt (d + 1) 117 [(.inr (.inr (some a0)))] h0 kc ks Q := by
  refine uc_ink [some (.inr (.inr (some a0)))] mt_117 (Nat.le_of_ble_eq_true rfl) rfl ?_
  refine ur_ldA rfl rfl ?_
  obtain ⟨g17, f2, f3, f4, f5, f6, f7, f8, f9, f10, o14, f11, f12, f13, hc1, k15, k16⟩ := hO0.word t0
  refine ur_get rfl hc1 rfl ?_
  cases o14 with
  | none =>
    refine ur_nulN rfl ?_
    refine ur_ldA rfl rfl ?_
    refine ur_go rfl ?_
    exact ur_ret rfl rfl (hQ _ ⟨_, rfl, g17, t0⟩ )
  | some r18 =>
    refine ur_nulS rfl ?_
    have k19 := k15 _ rfl
    refine ur_ldA rfl rfl ?_
    refine ur_get rfl hc1 rfl ?_
    exact ur_ret rfl rfl (hQ _ ⟨_, rfl, k19.1, k19.2⟩ )

set_option maxRecDepth 20000 in
set_option maxHeartbeats 4000000 in
theorem sf_X10_settle {d kc ks : Nat} {h0 : aH} {Q : Option aV → aH → Prop} (hO0 : OK h0) {a0 : Nat} (g0 : 114 ≤ a0) (t0 : tg h0 a0 = (110, 13)) (a1 : Int32) (a2 : Int32) (a3 : Int32) (hQ : ∀ r h', (r = none) → OK h' → un [22010, 22011, 22012] h0 h' → Q r h') : uCall Mt (d + 1) 118 [(.inr (.inr (some a0))), (.inl a1), (.inl a2), (.inl a3)] h0 kc ks Q := by
  refine uc_ink [some (.inr (.inr (some a0))), some (.inl a1), some (.inl a2), some (.inl a3)] mt_118 (Nat.le_of_ble_eq_true rfl) rfl ?_
  refine ur_ldA rfl rfl ?_
  refine ur_ldI rfl rfl ?_
  obtain ⟨g17, f2, f3, f4, f5, f6, f7, f8, f9, f10, o14, f11, f12, f13, hc1, k15, k16⟩ := hO0.word t0
  refine ur_putV (W := [22010, 22011, 22012]) (fs' := [(.inl f2), (.inl f3), (.inl f4), (.inl f5), (.inl f6), (.inl f7), (.inl f8), (.inl f9), (.inl f10), (.inr (.inr o14)), (.inl a1), (.inl f12), (.inl f13)]) rfl hO0 hc1 (Nat.le_of_ble_eq_true rfl) rfl rfl ⟨g17, _, _, _, _, _, _, _, _, _, _, _, _, _, rfl, k15, by omega⟩ rfl (Or.inr (by show 1000 + 100 * wid a0 (110, 13) + 10 ∈ _; rw [(wid_w g17)]; decide)) (fun h19 hO19 hu19 d18 hc20 => ?_)
  refine ur_ldA rfl rfl ?_
  refine ur_ldI rfl rfl ?_
  refine ur_putV (W := [22010, 22011, 22012]) (fs' := [(.inl f2), (.inl f3), (.inl f4), (.inl f5), (.inl f6), (.inl f7), (.inl f8), (.inl f9), (.inl f10), (.inr (.inr o14)), (.inl a1), (.inl a2), (.inl f13)]) rfl hO19 hc20 (Nat.le_of_ble_eq_true rfl) rfl rfl ⟨g17, _, _, _, _, _, _, _, _, _, _, _, _, _, rfl, (fun z e => ⟨(k15 z e).1, (hu19.tm (k15 z e).2 (by decide))⟩), by omega⟩ rfl (Or.inr (by show 1000 + 100 * wid a0 (110, 13) + 11 ∈ _; rw [(wid_w g17)]; decide)) (fun h22 hO22 hu22 d21 hc23 => ?_)
  refine ur_ldA rfl rfl ?_
  refine ur_ldI rfl rfl ?_
  refine ur_putV (W := [22010, 22011, 22012]) (fs' := [(.inl f2), (.inl f3), (.inl f4), (.inl f5), (.inl f6), (.inl f7), (.inl f8), (.inl f9), (.inl f10), (.inr (.inr o14)), (.inl a1), (.inl a2), (.inl a3)]) rfl hO22 hc23 (Nat.le_of_ble_eq_true rfl) rfl rfl ⟨g17, _, _, _, _, _, _, _, _, _, _, _, _, _, rfl, (fun z e => ⟨(k15 z e).1, (hu22.tm (hu19.tm (k15 z e).2 (by decide)) (by decide))⟩), by omega⟩ rfl (Or.inr (by show 1000 + 100 * wid a0 (110, 13) + 12 ∈ _; rw [(wid_w g17)]; decide)) (fun h25 hO25 hu25 d24 hc26 => ?_)
  exact ur_ret0 rfl (hQ _ _ rfl hO25 (hu19.tr (hu22.tr hu25)))

set_option maxRecDepth 20000 in
set_option maxHeartbeats 4000000 in
theorem sf_X10_movedFrom {d kc ks : Nat} {h0 : aH} {Q : Option aV → aH → Prop} (hO0 : OK h0) {a0 : Nat} (g0 : 114 ≤ a0) (t0 : tg h0 a0 = (110, 13)) (a1 : Int32) (a2 : Int32) (hQ : ∀ r, (∃ x : Int32, r = some (.inl x) ∧ 0 ≤ x.toInt ∧ x.toInt ≤ 2147483647) → Q r h0) : uCall Mt (d + 1) 121 [(.inr (.inr (some a0))), (.inl a1), (.inl a2)] h0 kc ks Q := by
  have l_0 : ((0) : Int32).toInt = 0 := by decide
  refine uc_ink [some (.inr (.inr (some a0))), some (.inl a1), some (.inl a2)] mt_121 (Nat.le_of_ble_eq_true rfl) rfl ?_
  refine ur_ldI rfl rfl ?_
  refine ur_if1 rfl (fun c1 => ?_) (fun c1 => ?_)
  · have t2 := ne_to c1
    refine ur_ldA rfl rfl ?_
    obtain ⟨g19, f4, f5, f6, f7, f8, f9, f10, f11, f12, o16, f13, f14, f15, hc3, k17, k18⟩ := hO0.word t0
    refine ur_get rfl hc3 rfl ?_
    refine ur_ldA rfl rfl ?_
    refine ur_get rfl hc3 rfl ?_
    refine ur_binV rfl (fun x20 e21 => ?_)
    have z22 := any_r f15
    have z23 := any_r f8
    refine ur_ldI rfl rfl ?_
    refine ur_binV rfl (fun x24 e25 => ?_)
    have z26 := any_r x20
    have z27 := any_r a2
    refine ur_push rfl ?_
    refine ur_maxV rfl (by show ¬ 9 ≤ 2; decide) (fun x28 t29 e30 => ?_)
    exact ur_ret rfl rfl (hQ _ ⟨_, rfl, by have := any_r x28; omega⟩ )
  · have t31 := ne_no c1
    refine ur_ldA rfl rfl ?_
    obtain ⟨g48, f33, f34, f35, f36, f37, f38, f39, f40, f41, o45, f42, f43, f44, hc32, k46, k47⟩ := hO0.word t0
    refine ur_get rfl hc32 rfl ?_
    refine ur_go rfl ?_
    refine ur_ldA rfl rfl ?_
    refine ur_get rfl hc32 rfl ?_
    refine ur_binV rfl (fun x49 e50 => ?_)
    have z51 := any_r f43
    have z52 := any_r f37
    refine ur_ldI rfl rfl ?_
    refine ur_binV rfl (fun x53 e54 => ?_)
    have z55 := any_r x49
    have z56 := any_r a2
    refine ur_push rfl ?_
    refine ur_maxV rfl (by show ¬ 9 ≤ 2; decide) (fun x57 t58 e59 => ?_)
    exact ur_ret rfl rfl (hQ _ ⟨_, rfl, by have := any_r x57; omega⟩ )

set_option maxRecDepth 20000 in
set_option maxHeartbeats 4000000 in
theorem sf_X10_movedTo {d kc ks : Nat} {h0 : aH} {Q : Option aV → aH → Prop} (hO0 : OK h0) {a0 : Nat} (g0 : 114 ≤ a0) (t0 : tg h0 a0 = (110, 13)) (a1 : Int32) (a2 : Int32) (hQ : ∀ r, (∃ x : Int32, r = some (.inl x) ∧ -2147483648 ≤ x.toInt ∧ x.toInt ≤ 999999) → Q r h0) : uCall Mt (d + 1) 122 [(.inr (.inr (some a0))), (.inl a1), (.inl a2)] h0 kc ks Q := by
  have l_0 : ((0) : Int32).toInt = 0 := by decide
  have l_999999 : ((999999) : Int32).toInt = 999999 := by decide
  refine uc_ink [some (.inr (.inr (some a0))), some (.inl a1), some (.inl a2)] mt_122 (Nat.le_of_ble_eq_true rfl) rfl ?_
  refine ur_ldI rfl rfl ?_
  refine ur_if1 rfl (fun c1 => ?_) (fun c1 => ?_)
  · have t2 := ne_to c1
    refine ur_ldA rfl rfl ?_
    obtain ⟨g19, f4, f5, f6, f7, f8, f9, f10, f11, f12, o16, f13, f14, f15, hc3, k17, k18⟩ := hO0.word t0
    refine ur_get rfl hc3 rfl ?_
    refine ur_ldA rfl rfl ?_
    refine ur_get rfl hc3 rfl ?_
    refine ur_binV rfl (fun x20 e21 => ?_)
    have z22 := any_r f15
    have z23 := any_r f8
    refine ur_ldI rfl rfl ?_
    refine ur_binV rfl (fun x24 e25 => ?_)
    have z26 := any_r x20
    have z27 := any_r a2
    refine ur_push rfl ?_
    refine ur_minV rfl (by show ¬ 9 ≤ 2; decide) (fun x28 t29 e30 => ?_)
    exact ur_ret rfl rfl (hQ _ ⟨_, rfl, by have := any_r x28; omega⟩ )
  · have t31 := ne_no c1
    refine ur_ldA rfl rfl ?_
    obtain ⟨g48, f33, f34, f35, f36, f37, f38, f39, f40, f41, o45, f42, f43, f44, hc32, k46, k47⟩ := hO0.word t0
    refine ur_get rfl hc32 rfl ?_
    refine ur_go rfl ?_
    refine ur_ldA rfl rfl ?_
    refine ur_get rfl hc32 rfl ?_
    refine ur_binV rfl (fun x49 e50 => ?_)
    have z51 := any_r f43
    have z52 := any_r f37
    refine ur_ldI rfl rfl ?_
    refine ur_binV rfl (fun x53 e54 => ?_)
    have z55 := any_r x49
    have z56 := any_r a2
    refine ur_push rfl ?_
    refine ur_minV rfl (by show ¬ 9 ≤ 2; decide) (fun x57 t58 e59 => ?_)
    exact ur_ret rfl rfl (hQ _ ⟨_, rfl, by have := any_r x57; omega⟩ )

set_option maxRecDepth 20000 in
set_option maxHeartbeats 4000000 in
theorem sf_X10_spanFrom {d kc ks : Nat} {h0 : aH} {Q : Option aV → aH → Prop} (hO0 : OK h0) {a0 : Nat} (g0 : 114 ≤ a0) (t0 : tg h0 a0 = (110, 13)) (a1 : Int32) (hQ : ∀ r, (∃ x : Int32, r = some (.inl x) ∧ 0 ≤ x.toInt ∧ x.toInt ≤ 2147483647) → Q r h0) : uCall Mt (d + 2) 119 [(.inr (.inr (some a0))), (.inl a1)] h0 kc ks Q := by
  have l_0 : ((0) : Int32).toInt = 0 := by decide
  refine uc_ink [some (.inr (.inr (some a0))), some (.inl a1)] mt_119 (Nat.le_of_ble_eq_true rfl) rfl ?_
  refine ur_ldA rfl rfl ?_
  refine ur_ldI rfl rfl ?_
  refine ur_push rfl ?_
  obtain ⟨g17, f2, f3, f4, f5, f6, f7, f8, f9, f10, o14, f11, f12, f13, hc1, k15, k16⟩ := hO0.word t0
  refine ur_inl rfl (rcv_of hc1) (Nat.le_of_ble_eq_true rfl) (Nat.le_of_ble_eq_true rfl) (sf_X10_movedFrom hO0 g17 t0 _ _ (fun w18 hr19 => ?_))
  obtain ⟨x20, rfl, t21⟩ := hr19
  show uRun _ (uCall Mt _) _ 6 (_, [(.inl x20)], _, _, _)
  exact ur_ret rfl rfl (hQ _ ⟨_, rfl, by have := any_r x20; omega⟩ )

set_option maxRecDepth 20000 in
set_option maxHeartbeats 4000000 in
theorem sf_X10_spanTo {d kc ks : Nat} {h0 : aH} {Q : Option aV → aH → Prop} (hO0 : OK h0) {a0 : Nat} (g0 : 114 ≤ a0) (t0 : tg h0 a0 = (110, 13)) (a1 : Int32) (hQ : ∀ r, (∃ x : Int32, r = some (.inl x) ∧ -2147483648 ≤ x.toInt ∧ x.toInt ≤ 999999) → Q r h0) : uCall Mt (d + 2) 120 [(.inr (.inr (some a0))), (.inl a1)] h0 kc ks Q := by
  have l_0 : ((0) : Int32).toInt = 0 := by decide
  refine uc_ink [some (.inr (.inr (some a0))), some (.inl a1)] mt_120 (Nat.le_of_ble_eq_true rfl) rfl ?_
  refine ur_ldA rfl rfl ?_
  refine ur_ldI rfl rfl ?_
  refine ur_push rfl ?_
  obtain ⟨g17, f2, f3, f4, f5, f6, f7, f8, f9, f10, o14, f11, f12, f13, hc1, k15, k16⟩ := hO0.word t0
  refine ur_inl rfl (rcv_of hc1) (Nat.le_of_ble_eq_true rfl) (Nat.le_of_ble_eq_true rfl) (sf_X10_movedTo hO0 g17 t0 _ _ (fun w18 hr19 => ?_))
  obtain ⟨x20, rfl, t21⟩ := hr19
  show uRun _ (uCall Mt _) _ 6 (_, [(.inl x20)], _, _, _)
  exact ur_ret rfl rfl (hQ _ ⟨_, rfl, by have := any_r x20; omega⟩ )

set_option maxRecDepth 20000 in
set_option maxHeartbeats 4000000 in
theorem sf_X2_hasReturn {d kc ks : Nat} {h0 : aH} {Q : Option aV → aH → Prop} (hO0 : OK h0) {a0 : Nat} (g0 : 114 ≤ a0) (t0 : tg h0 a0 = (102, 14)) (a1 : Int32) (hQ : ∀ r, (∃ q, r = some (.inl (bi q))) → Q r h0) : uCall Mt (d + 1) 19 [(.inr (.inr (some a0))), (.inl a1)] h0 kc ks Q := by
  have l_0 : ((0) : Int32).toInt = 0 := by decide
  have l_1 : ((1) : Int32).toInt = 1 := by decide
  refine uc_ink [some (.inr (.inr (some a0))), some (.inl a1)] mt_19 (Nat.le_of_ble_eq_true rfl) rfl ?_
  refine ur_ldI rfl rfl ?_
  refine ur_ldA rfl rfl ?_
  obtain ⟨g21, f2, f3, f4, f5, f6, f7, f8, f9, f10, f11, q12, q13, o14, q15, hc1, k16, k17, k18, k19, k20⟩ := hO0.comet t0
  refine ur_get rfl hc1 rfl ?_
  have z22 := any_r a1
  have z23 := any_r f10
  refine ur_if2 rfl (fun c24 => ?_) (fun c24 => ?_)
  · have t25 := lt_to c24
    refine ur_push rfl ?_
    exact ur_ret rfl rfl (hQ _ ⟨false, rfl⟩ )
  · have t26 := lt_no c24
    refine ur_ldI rfl rfl ?_
    refine ur_ldA rfl rfl ?_
    refine ur_get rfl hc1 rfl ?_
    have z27 := any_r f11
    refine ur_if2 rfl (fun c28 => ?_) (fun c28 => ?_)
    · have t29 := lt_to c28
      refine ur_push rfl ?_
      exact ur_ret rfl rfl (hQ _ ⟨false, rfl⟩ )
    · have t30 := lt_no c28
      refine ur_push rfl ?_
      refine ur_go rfl ?_
      exact ur_ret rfl rfl (hQ _ ⟨true, rfl⟩ )

set_option maxRecDepth 20000 in
set_option maxHeartbeats 4000000 in
theorem sf_X2_passOf {d kc ks : Nat} {h0 : aH} {Q : Option aV → aH → Prop} (hO0 : OK h0) {a0 : Nat} (g0 : 114 ≤ a0) (t0 : tg h0 a0 = (102, 14)) (a1 : Int32) (hQ : ∀ r, (∃ x, r = some (.inl x)) → Q r h0) : uCall Mt (d + 3) 20 [(.inr (.inr (some a0))), (.inl a1)] h0 kc ks Q := by
  have l_m60 : ((-60) : Int32).toInt = -60 := by decide
  have l_60 : ((60) : Int32).toInt = 60 := by decide
  refine uc_ink [some (.inr (.inr (some a0))), some (.inl a1)] mt_20 (Nat.le_of_ble_eq_true rfl) rfl ?_
  refine ur_ldI rfl rfl ?_
  refine ur_callv rfl rfl (Nat.le_of_ble_eq_true rfl) (Nat.le_of_ble_eq_true rfl) rfl (sp_isRet _ _) ?_
  refine ur_eqB rfl (fun c3 => ?_) (fun c3 => ?_)
  · have t4 := wi_noL c3 l_m60 l_60
    refine ur_ldA rfl rfl ?_
    obtain ⟨g25, f6, f7, f8, f9, f10, f11, f12, f13, f14, f15, q16, q17, o18, q19, hc5, k20, k21, k22, k23, k24⟩ := hO0.comet t0
    refine ur_get rfl hc5 rfl ?_
    exact ur_ret rfl rfl (hQ _ ⟨_, rfl⟩ )
  · have t26 := wi_toL c3 l_m60 l_60
    refine ur_ldA rfl rfl ?_
    obtain ⟨g47, f28, f29, f30, f31, f32, f33, f34, f35, f36, f37, q38, q39, o40, q41, hc27, k42, k43, k44, k45, k46⟩ := hO0.comet t0
    refine ur_get rfl hc27 rfl ?_
    refine ur_ldI rfl rfl ?_
    refine ur_push rfl ?_
    refine ur_binV rfl (fun x48 e49 => ?_)
    have z50 := any_r a1
    have t51 := ti_add e49 (by omega) (by omega)
    obtain ⟨xs53, hc52, hn54, he55⟩ := hO0.int k42.2
    refine ur_aldV rfl hc52 hn54 (by omega) (fun x56 hx57 => ?_)
    refine ur_go rfl ?_
    exact ur_ret rfl rfl (hQ _ ⟨_, rfl⟩ )

set_option maxRecDepth 20000 in
set_option maxHeartbeats 4000000 in
theorem sf_X2_setPass {d kc ks : Nat} {h0 : aH} {Q : Option aV → aH → Prop} (hO0 : OK h0) {a0 : Nat} (g0 : 114 ≤ a0) (t0 : tg h0 a0 = (102, 14)) (a1 : Int32) (a2 : Int32) (hQ : ∀ r h', (r = none) → OK h' → un [221] h0 h' → Q r h') : uCall Mt (d + 3) 21 [(.inr (.inr (some a0))), (.inl a1), (.inl a2)] h0 kc ks Q := by
  have l_m60 : ((-60) : Int32).toInt = -60 := by decide
  have l_60 : ((60) : Int32).toInt = 60 := by decide
  refine uc_ink [some (.inr (.inr (some a0))), some (.inl a1), some (.inl a2)] mt_21 (Nat.le_of_ble_eq_true rfl) rfl ?_
  refine ur_ldI rfl rfl ?_
  refine ur_callv rfl rfl (Nat.le_of_ble_eq_true rfl) (Nat.le_of_ble_eq_true rfl) rfl (sp_isRet _ _) ?_
  refine ur_eqB rfl (fun c3 => ?_) (fun c3 => ?_)
  · have t4 := wi_noL c3 l_m60 l_60
    exact ur_ret0 rfl (hQ _ _ rfl hO0 un.rf)
  · have t5 := wi_toL c3 l_m60 l_60
    refine ur_ldA rfl rfl ?_
    obtain ⟨g26, f7, f8, f9, f10, f11, f12, f13, f14, f15, f16, q17, q18, o19, q20, hc6, k21, k22, k23, k24, k25⟩ := hO0.comet t0
    refine ur_get rfl hc6 rfl ?_
    refine ur_ldI rfl rfl ?_
    refine ur_push rfl ?_
    refine ur_binV rfl (fun x27 e28 => ?_)
    have z29 := any_r a1
    have t30 := ti_add e28 (by omega) (by omega)
    refine ur_ldI rfl rfl ?_
    obtain ⟨xs32, hc31, hn33, he34⟩ := hO0.int k21.2
    refine ur_astV (W := [221]) (m := 121) rfl hO0 hc31 (by decide) hn33 (by omega) (any_d k21.1 _) (Or.inr (Or.inr (wid_pas k21.1 (by decide)))) (fun h37 hO37 hu37 d35 hc36 => ?_)
    exact ur_ret0 rfl (hQ _ _ rfl hO37 hu37)

set_option maxRecDepth 20000 in
set_option maxHeartbeats 4000000 in
theorem sf_X2_degreeAt {d kc ks : Nat} {h0 : aH} {Q : Option aV → aH → Prop} (hO0 : OK h0) {a0 : Nat} (g0 : 114 ≤ a0) (t0 : tg h0 a0 = (102, 14)) (a1 : Int32) (hQ : ∀ r, (∃ x, r = some (.inl x)) → Q r h0) : uCall Mt (d + 1) 22 [(.inr (.inr (some a0))), (.inl a1)] h0 kc ks Q := by
  have l_m120 : ((-120) : Int32).toInt = -120 := by decide
  have l_120 : ((120) : Int32).toInt = 120 := by decide
  refine uc_ink [some (.inr (.inr (some a0))), some (.inl a1)] mt_22 (Nat.le_of_ble_eq_true rfl) rfl ?_
  refine ur_ldI rfl rfl ?_
  refine ur_push rfl ?_
  refine ur_if2 rfl (fun c1 => ?_) (fun c1 => ?_)
  · have t2 := lt_to c1
    refine ur_ldA rfl rfl ?_
    obtain ⟨g23, f4, f5, f6, f7, f8, f9, f10, f11, f12, f13, q14, q15, o16, q17, hc3, k18, k19, k20, k21, k22⟩ := hO0.comet t0
    refine ur_get rfl hc3 rfl ?_
    exact ur_ret rfl rfl (hQ _ ⟨_, rfl⟩ )
  · have t24 := lt_no c1
    refine ur_ldI rfl rfl ?_
    refine ur_push rfl ?_
    refine ur_if2 rfl (fun c25 => ?_) (fun c25 => ?_)
    · have t26 := lt_to c25
      refine ur_ldA rfl rfl ?_
      obtain ⟨g47, f28, f29, f30, f31, f32, f33, f34, f35, f36, f37, q38, q39, o40, q41, hc27, k42, k43, k44, k45, k46⟩ := hO0.comet t0
      refine ur_get rfl hc27 rfl ?_
      exact ur_ret rfl rfl (hQ _ ⟨_, rfl⟩ )
    · have t48 := lt_no c25
      refine ur_ldA rfl rfl ?_
      obtain ⟨g69, f50, f51, f52, f53, f54, f55, f56, f57, f58, f59, q60, q61, o62, q63, hc49, k64, k65, k66, k67, k68⟩ := hO0.comet t0
      refine ur_get rfl hc49 rfl ?_
      refine ur_ldI rfl rfl ?_
      refine ur_push rfl ?_
      refine ur_binV rfl (fun x70 e71 => ?_)
      have z72 := any_r a1
      have t73 := ti_add e71 (by omega) (by omega)
      obtain ⟨xs75, hc74, hn76, he77⟩ := hO0.int k65.2
      refine ur_aldV rfl hc74 hn76 (by omega) (fun x78 hx79 => ?_)
      refine ur_go rfl ?_
      exact ur_ret rfl rfl (hQ _ ⟨_, rfl⟩ )

set_option maxRecDepth 20000 in
set_option maxHeartbeats 4000000 in
theorem sf_X2_distanceAt {d kc ks : Nat} {h0 : aH} {Q : Option aV → aH → Prop} (hO0 : OK h0) {a0 : Nat} (g0 : 114 ≤ a0) (t0 : tg h0 a0 = (102, 14)) (a1 : Int32) (hQ : ∀ r, (∃ x, r = some (.inl x)) → Q r h0) : uCall Mt (d + 1) 23 [(.inr (.inr (some a0))), (.inl a1)] h0 kc ks Q := by
  refine uc_ink [some (.inr (.inr (some a0))), some (.inl a1)] mt_23 (Nat.le_of_ble_eq_true rfl) rfl ?_
  refine ur_ldA rfl rfl ?_
  obtain ⟨g21, f2, f3, f4, f5, f6, f7, f8, f9, f10, f11, q12, q13, o14, q15, hc1, k16, k17, k18, k19, k20⟩ := hO0.comet t0
  refine ur_get rfl hc1 rfl ?_
  refine ur_ldI rfl rfl ?_
  refine ur_absV rfl (by show ¬ 9 ≤ 2; decide) (fun x22 t23 e24 => ?_)
  refine ur_binV rfl (fun x25 e26 => ?_)
  have z27 := any_r f5
  have z28 := any_r x22
  exact ur_ret rfl rfl (hQ _ ⟨_, rfl⟩ )

set_option maxRecDepth 20000 in
set_option maxHeartbeats 4000000 in
theorem sf_X11_apart {d kc ks : Nat} {h0 : aH} {Q : Option aV → aH → Prop} (a0 : Int32) (a1 : Int32) (hQ : ∀ r, (∃ x, r = some (.inl x)) → Q r h0) : uCall Mt (d + 1) 179 [(.inl a0), (.inl a1)] h0 kc ks Q := by
  have l_360 : ((360) : Int32).toInt = 360 := by decide
  refine uc_ink [some (.inl a0), some (.inl a1), none] mt_179 (Nat.le_of_ble_eq_true rfl) rfl ?_
  refine ur_ldI rfl rfl ?_
  refine ur_ldI rfl rfl ?_
  refine ur_binV rfl (fun x1 e2 => ?_)
  have z3 := any_r a0
  have z4 := any_r a1
  refine ur_absV rfl (by show ¬ 9 ≤ 1; decide) (fun x5 t6 e7 => ?_)
  refine ur_push rfl ?_
  refine ur_divV rfl (by decide) (fun x8 e9 => ?_)
  have z10 := any_r x5
  have t11 : 0 ≤ x5.toInt → x8.toInt = x5.toInt % 360 := fun q => ti_rem e9 l_360 (by decide) q
  refine ur_svIk [some (.inl a0), some (.inl a1), some (.inl x8)] rfl rfl ?_
  refine ur_ldI rfl rfl ?_
  refine ur_push rfl ?_
  refine ur_ldI rfl rfl ?_
  refine ur_binV rfl (fun x12 e13 => ?_)
  have z14 := any_r x8
  refine ur_minV rfl (by show ¬ 9 ≤ 2; decide) (fun x15 t16 e17 => ?_)
  exact ur_ret rfl rfl (hQ _ ⟨_, rfl⟩ )

set_option maxRecDepth 20000 in
set_option maxHeartbeats 4000000 in
theorem sf_X2_apartOfSun {d kc ks : Nat} {h0 : aH} {Q : Option aV → aH → Prop} (hO0 : OK h0) {a0 : Nat} (g0 : 114 ≤ a0) (t0 : tg h0 a0 = (102, 14)) (a1 : Int32) (a2 : Int32) (hQ : ∀ r, (∃ x, r = some (.inl x)) → Q r h0) : uCall Mt (d + 2) 24 [(.inr (.inr (some a0))), (.inl a1), (.inl a2)] h0 kc ks Q := by
  have l_360 : ((360) : Int32).toInt = 360 := by decide
  refine uc_ink [some (.inr (.inr (some a0))), some (.inl a1), some (.inl a2)] mt_24 (Nat.le_of_ble_eq_true rfl) rfl ?_
  refine ur_ldA rfl rfl ?_
  refine ur_ldI rfl rfl ?_
  obtain ⟨g21, f2, f3, f4, f5, f6, f7, f8, f9, f10, f11, q12, q13, o14, q15, hc1, k16, k17, k18, k19, k20⟩ := hO0.comet t0
  refine ur_inl rfl (rcv_of hc1) (Nat.le_of_ble_eq_true rfl) (Nat.le_of_ble_eq_true rfl) (sf_X2_degreeAt hO0 g21 t0 _ (fun w22 hr23 => ?_))
  obtain ⟨x24, rfl⟩ := hr23
  show uRun _ (uCall Mt _) _ 5 (_, [(.inl x24)], _, _, _)
  refine ur_ldI rfl rfl ?_
  refine ur_push rfl ?_
  refine ur_divV rfl (by decide) (fun x25 e26 => ?_)
  have z27 := any_r a2
  have t28 : 0 ≤ a2.toInt → x25.toInt = a2.toInt % 360 := fun q => ti_rem e26 l_360 (by decide) q
  refine ur_inl rfl rfl (Nat.le_of_ble_eq_true rfl) (Nat.le_of_ble_eq_true rfl) (sf_X11_apart _ _ (fun w29 hr30 => ?_))
  obtain ⟨x31, rfl⟩ := hr30
  show uRun _ (uCall Mt _) _ 13 (_, [(.inl x31)], _, _, _)
  exact ur_ret rfl rfl (hQ _ ⟨_, rfl⟩ )

set_option maxRecDepth 20000 in
set_option maxHeartbeats 4000000 in
theorem sf_X2_isWest {d kc ks : Nat} {h0 : aH} {Q : Option aV → aH → Prop} (hO0 : OK h0) {a0 : Nat} (g0 : 114 ≤ a0) (t0 : tg h0 a0 = (102, 14)) (a1 : Int32) (a2 : Int32) (hQ : ∀ r, (∃ q, r = some (.inl (bi q))) → Q r h0) : uCall Mt (d + 2) 25 [(.inr (.inr (some a0))), (.inl a1), (.inl a2)] h0 kc ks Q := by
  have l_0 : ((0) : Int32).toInt = 0 := by decide
  have l_1 : ((1) : Int32).toInt = 1 := by decide
  have l_180 : ((180) : Int32).toInt = 180 := by decide
  have l_360 : ((360) : Int32).toInt = 360 := by decide
  refine uc_ink [some (.inr (.inr (some a0))), some (.inl a1), some (.inl a2)] mt_25 (Nat.le_of_ble_eq_true rfl) rfl ?_
  refine ur_ldA rfl rfl ?_
  refine ur_ldI rfl rfl ?_
  obtain ⟨g21, f2, f3, f4, f5, f6, f7, f8, f9, f10, f11, q12, q13, o14, q15, hc1, k16, k17, k18, k19, k20⟩ := hO0.comet t0
  refine ur_inl rfl (rcv_of hc1) (Nat.le_of_ble_eq_true rfl) (Nat.le_of_ble_eq_true rfl) (sf_X2_degreeAt hO0 g21 t0 _ (fun w22 hr23 => ?_))
  obtain ⟨x24, rfl⟩ := hr23
  show uRun _ (uCall Mt _) _ 5 (_, [(.inl x24)], _, _, _)
  refine ur_ldI rfl rfl ?_
  refine ur_push rfl ?_
  refine ur_divV rfl (by decide) (fun x25 e26 => ?_)
  have z27 := any_r a2
  have t28 : 0 ≤ a2.toInt → x25.toInt = a2.toInt % 360 := fun q => ti_rem e26 l_360 (by decide) q
  refine ur_binV rfl (fun x29 e30 => ?_)
  have z31 := any_r x24
  have z32 := any_r x25
  refine ur_push rfl ?_
  refine ur_binV rfl (fun x33 e34 => ?_)
  have z35 := any_r x29
  refine ur_push rfl ?_
  refine ur_divV rfl (by decide) (fun x36 e37 => ?_)
  have z38 := any_r x33
  have t39 : 0 ≤ x33.toInt → x36.toInt = x33.toInt % 360 := fun q => ti_rem e37 l_360 (by decide) q
  refine ur_push rfl ?_
  refine ur_if2 rfl (fun c40 => ?_) (fun c40 => ?_)
  · have t41 := le_to c40
    refine ur_push rfl ?_
    exact ur_ret rfl rfl (hQ _ ⟨false, rfl⟩ )
  · have t42 := le_no c40
    refine ur_push rfl ?_
    refine ur_go rfl ?_
    exact ur_ret rfl rfl (hQ _ ⟨true, rfl⟩ )

set_option maxRecDepth 20000 in
set_option maxHeartbeats 4000000 in
theorem sf_X11_turned {d kc ks : Nat} {h0 : aH} {Q : Option aV → aH → Prop} (a0 : Int32) (a1 : Int32) (a2 : Int32) (hQ : ∀ r, (∃ x, r = some (.inl x)) → Q r h0) : uCall Mt (d + 1) 182 [(.inl a0), (.inl a1), (.inl a2)] h0 kc ks Q := by
  have l_0 : ((0) : Int32).toInt = 0 := by decide
  have l_90 : ((90) : Int32).toInt = 90 := by decide
  refine uc_ink [some (.inl a0), some (.inl a1), some (.inl a2), none] mt_182 (Nat.le_of_ble_eq_true rfl) rfl ?_
  refine ur_ldI rfl rfl ?_
  refine ur_absV rfl (by show ¬ 9 ≤ 1; decide) (fun x1 t2 e3 => ?_)
  refine ur_ldI rfl rfl ?_
  refine ur_binV rfl (fun x4 e5 => ?_)
  have z6 := any_r x1
  have z7 := any_r a2
  refine ur_svIk [some (.inl a0), some (.inl a1), some (.inl a2), some (.inl x4)] rfl rfl ?_
  refine ur_ldI rfl rfl ?_
  refine ur_if1 rfl (fun c8 => ?_) (fun c8 => ?_)
  · have t9 := ne_to c8
    refine ur_ldI rfl rfl ?_
    refine ur_push rfl ?_
    refine ur_binV rfl (fun x10 e11 => ?_)
    have z12 := any_r a0
    refine ur_ldI rfl rfl ?_
    refine ur_binV rfl (fun x13 e14 => ?_)
    have z15 := any_r x10
    have z16 := any_r a1
    refine ur_ldI rfl rfl ?_
    refine ur_divV rfl (of_decide_eq_true c8) (fun x17 e18 => ?_)
    have z19 := any_r x13
    have z20 := any_r x4
    exact ur_ret rfl rfl (hQ _ ⟨_, rfl⟩ )
  · have t21 := ne_no c8
    refine ur_push rfl ?_
    refine ur_go rfl ?_
    exact ur_ret rfl rfl (hQ _ ⟨_, rfl⟩ )

set_option maxRecDepth 20000 in
set_option maxHeartbeats 4000000 in
theorem sf_X9_valueWith {d kc ks : Nat} {h0 : aH} {Q : Option aV → aH → Prop} (hO0 : OK h0) {a0 : Nat} (t0 : tg h0 a0 = (109, 2)) {a1 : Nat} (t1 : tg h0 a1 = (0, 10)) {a2 : Nat} (t2 : tg h0 a2 = (0, 64)) (w2 : scA a2 = true) (r2 : rng a2 = (-2147483648, 2147483647)) (hQ : ∀ r h', (∃ x, r = some (.inl x)) → OK h' → un [] h0 h' → Q r h') : uCall Mt (d + 2) 112 [(.inr (.inr (some a0))), (.inr (.inr (some a1))), (.inr (.inr (some a2)))] h0 kc ks Q := by
  have l_m1 : ((-1) : Int32).toInt = -1 := by decide
  have l_0 : ((0) : Int32).toInt = 0 := by decide
  have l_1 : ((1) : Int32).toInt = 1 := by decide
  have l_4 : ((4) : Int32).toInt = 4 := by decide
  have l_15 : ((15) : Int32).toInt = 15 := by decide
  refine uc_ink [some (.inr (.inr (some a0))), some (.inr (.inr (some a1))), some (.inr (.inr (some a2))), none, none, none, none, none] mt_112 (Nat.le_of_ble_eq_true rfl) rfl ?_
  refine ur_push rfl ?_
  refine ur_svIk [some (.inr (.inr (some a0))), some (.inr (.inr (some a1))), some (.inr (.inr (some a2))), some (.inl (-1)), none, none, none, none] rfl rfl ?_
  refine ur_push rfl ?_
  refine ur_svIk [some (.inr (.inr (some a0))), some (.inr (.inr (some a1))), some (.inr (.inr (some a2))), some (.inl (-1)), some (.inl 0), none, none, none] rfl rfl ?_
  have L6 : ∀ (m7 : Nat) (x1 : Int32) (x2 : Int32) (u3 : Option aV) (u4 : Option aV) (u5 : Option aV) (h9 : aH) , OK h9 → un [] h0 h9 → ((-1 ≤ x1.toInt ∧ x1.toInt ≤ 63) ∧ (0 ≤ x2.toInt ∧ x2.toInt ≤ 200000000)) → ((129 - x2.toInt).toNat) < m7 → uRun oX9_valueWith (uCall Mt (d + 1)) Q 5 ([some (.inr (.inr (some a0))), some (.inr (.inr (some a1))), some (.inr (.inr (some a2))), some (.inl x1), some (.inl x2), u3, u4, u5], [], h9, kc, ks) := by
    intro m7
    induction m7 with
    | zero => intro x1 x2 u3 u4 u5 h9 hO9 hu9 iv10 mm11; omega
    | succ m7 ih8 =>
      intro x1 x2 u3 u4 u5 h9 hO9 hu9 iv10 mm11
      refine ur_ldI rfl rfl ?_
      refine ur_ldA rfl rfl ?_
      obtain ⟨g16, f13, hc12, k14, k15⟩ := hO9.text (hu9.tm t0 (by decide))
      refine ur_get rfl hc12 rfl ?_
      have z17 := any_r x2
      have z18 := any_r f13
      refine ur_if2 rfl (fun c19 => ?_) (fun c19 => ?_)
      · have t20 := le_to c19
        refine ur_push rfl ?_
        exact ur_ret rfl rfl (hQ _ _ ⟨_, rfl⟩ hO9 hu9)
      · have t21 := le_no c19
        refine ur_ldA rfl rfl ?_
        refine ur_get rfl hc12 rfl ?_
        refine ur_ldI rfl rfl ?_
        obtain ⟨xs23, hc22, hn24, he25⟩ := hO9.int k14
        refine ur_aldV rfl hc22 hn24 (by omega) (fun x26 hx27 => ?_)
        refine ur_push rfl ?_
        refine ur_binV rfl (fun x28 e29 => ?_)
        have t30 := and_15 e29
        refine ur_svIk [some (.inr (.inr (some a0))), some (.inr (.inr (some a1))), some (.inr (.inr (some a2))), some (.inl x1), some (.inl x2), some (.inl x28), u4, u5] rfl rfl ?_
        refine ur_ldA rfl rfl ?_
        refine ur_get rfl hc12 rfl ?_
        refine ur_ldI rfl rfl ?_
        refine ur_aldV rfl hc22 hn24 (by omega) (fun x31 hx32 => ?_)
        obtain rfl : x26 = x31 := Option.some.inj (hx27.symm.trans hx32)
        refine ur_push rfl ?_
        refine ur_binV rfl (fun x33 e34 => ?_)
        have z35 := any_r x26
        have t36 := shr_4 e34
        refine ur_svIk [some (.inr (.inr (some a0))), some (.inr (.inr (some a1))), some (.inr (.inr (some a2))), some (.inl x1), some (.inl x2), some (.inl x28), some (.inl x33), u5] rfl rfl ?_
        refine ur_ldI rfl rfl ?_
        refine ur_if1 rfl (fun c37 => ?_) (fun c37 => ?_)
        · have t38 := eq_to c37
          refine ur_ldI rfl rfl ?_
          refine ur_push rfl ?_
          refine ur_binV rfl (fun x39 e40 => ?_)
          have z41 := any_r x1
          have t42 := ti_add e40 (by omega) (by omega)
          refine ur_ldA rfl rfl ?_
          obtain ⟨xs44, hc43, hn45, he46⟩ := hO9.int (hu9.tm t2 (by decide))
          refine ur_lenV (m := 64) rfl hc43 hn45 (by decide) (fun x47 t48 => ?_)
          have z49 := any_r x39
          have z50 := any_r x47
          refine ur_if2 rfl (fun c51 => ?_) (fun c51 => ?_)
          · have t52 := le_to c51
            refine ur_push rfl ?_
            exact ur_ret rfl rfl (hQ _ _ ⟨_, rfl⟩ hO9 hu9)
          · have t53 := le_no c51
            refine ur_ldI rfl rfl ?_
            refine ur_if1 rfl (fun c54 => ?_) (fun c54 => ?_)
            · have t55 := le_to c54
              refine ur_incV (fun z => [some (.inr (.inr (some a0))), some (.inr (.inr (some a1))), some (.inr (.inr (some a2))), some (.inl z), some (.inl x2), some (.inl x28), some (.inl x33), u5]) rfl rfl (fun _ => rfl) (fun x56 e57 => ?_)
              have t58 := ti_add e57 (by omega) (by omega)
              refine ur_ldA rfl rfl ?_
              refine ur_ldI rfl rfl ?_
              refine ur_ldI rfl rfl ?_
              refine ur_if1 rfl (fun c59 => ?_) (fun c59 => ?_)
              · have t60 := ne_to c59
                exfalso
                omega
              · have t61 := ne_no c59
                refine ur_ldI rfl rfl ?_
                refine ur_go rfl ?_
                refine ur_astV (W := []) (m := 64) rfl hO9 hc43 (by decide) hn45 (by omega) (any_w r2 _) (Or.inl w2) (fun h64 hO64 hu64 d62 hc63 => ?_)
                refine ur_go rfl ?_
                refine ur_incV (fun z => [some (.inr (.inr (some a0))), some (.inr (.inr (some a1))), some (.inr (.inr (some a2))), some (.inl x56), some (.inl z), some (.inl x28), some (.inl x33), u5]) rfl rfl (fun _ => rfl) (fun x65 e66 => ?_)
                have t67 := ti_add e66 (by omega) (by omega)
                refine ur_go rfl ?_
                have z68 := any_r x56
                have z69 := any_r x65
                exact ih8 x56 x65 _ _ _ _ hO64 (hu9.tr hu64) (by omega) (by omega)
            · have t70 := le_no c54
              refine ur_push rfl ?_
              exact ur_ret rfl rfl (hQ _ _ ⟨_, rfl⟩ hO9 hu9)
        · have t71 := eq_no c37
          refine ur_ldI rfl rfl ?_
          refine ur_push rfl ?_
          refine ur_if2 rfl (fun c72 => ?_) (fun c72 => ?_)
          · have t73 := ne_to c72
            refine ur_ldI rfl rfl ?_
            refine ur_if1 rfl (fun c74 => ?_) (fun c74 => ?_)
            · have t75 := le_to c74
              refine ur_ldA rfl rfl ?_
              refine ur_ldI rfl rfl ?_
              obtain ⟨xs77, hc76, hn78, he79⟩ := hO9.int (hu9.tm t2 (by decide))
              refine ur_aldV rfl hc76 hn78 (by omega) (fun x80 hx81 => ?_)
              refine ur_svIk [some (.inr (.inr (some a0))), some (.inr (.inr (some a1))), some (.inr (.inr (some a2))), some (.inl x1), some (.inl x2), some (.inl x28), some (.inl x33), some (.inl x80)] rfl rfl ?_
              refine ur_ldI rfl rfl ?_
              rcases (show x28.toInt = 2 ∨ x28.toInt = 3 ∨ x28.toInt = 14 ∨ x28.toInt = 15 ∨ (x28.toInt ≠ 2 ∧ x28.toInt ≠ 3 ∧ x28.toInt ≠ 14 ∧ x28.toInt ≠ 15) by omega) with t82 | t82 | t82 | t82 | t82
              · refine ur_swi (t := 152) rfl (by rw [t82]; rfl) ?_
                refine ur_ldA rfl rfl ?_
                refine ur_ldI rfl rfl ?_
                refine ur_ldI rfl rfl ?_
                refine ur_if1 rfl (fun c83 => ?_) (fun c83 => ?_)
                · have t84 := ne_to c83
                  refine ur_push rfl ?_
                  refine ur_astV (W := []) (m := 64) rfl hO9 hc76 (by decide) hn78 (by omega) (any_w r2 _) (Or.inl w2) (fun h87 hO87 hu87 d85 hc86 => ?_)
                  refine ur_go rfl ?_
                  refine ur_incV (fun z => [some (.inr (.inr (some a0))), some (.inr (.inr (some a1))), some (.inr (.inr (some a2))), some (.inl x1), some (.inl z), some (.inl x28), some (.inl x33), some (.inl x80)]) rfl rfl (fun _ => rfl) (fun x88 e89 => ?_)
                  have t90 := ti_add e89 (by omega) (by omega)
                  refine ur_go rfl ?_
                  have z91 := any_r x1
                  have z92 := any_r x88
                  exact ih8 x1 x88 _ _ _ _ hO87 (hu9.tr hu87) (by omega) (by omega)
                · have t93 := ne_no c83
                  refine ur_push rfl ?_
                  refine ur_go rfl ?_
                  refine ur_astV (W := []) (m := 64) rfl hO9 hc76 (by decide) hn78 (by omega) (any_w r2 _) (Or.inl w2) (fun h96 hO96 hu96 d94 hc95 => ?_)
                  refine ur_go rfl ?_
                  refine ur_incV (fun z => [some (.inr (.inr (some a0))), some (.inr (.inr (some a1))), some (.inr (.inr (some a2))), some (.inl x1), some (.inl z), some (.inl x28), some (.inl x33), some (.inl x80)]) rfl rfl (fun _ => rfl) (fun x97 e98 => ?_)
                  have t99 := ti_add e98 (by omega) (by omega)
                  refine ur_go rfl ?_
                  have z100 := any_r x1
                  have z101 := any_r x97
                  exact ih8 x1 x97 _ _ _ _ hO96 (hu9.tr hu96) (by omega) (by omega)
              · refine ur_swi (t := 168) rfl (by rw [t82]; rfl) ?_
                refine ur_ldA rfl rfl ?_
                refine ur_ldI rfl rfl ?_
                refine ur_ldI rfl rfl ?_
                refine ur_unV rfl (fun x102 e103 => ?_)
                have z104 := any_r x80
                refine ur_astV (W := []) (m := 64) rfl hO9 hc76 (by decide) hn78 (by omega) (any_w r2 _) (Or.inl w2) (fun h107 hO107 hu107 d105 hc106 => ?_)
                refine ur_go rfl ?_
                refine ur_incV (fun z => [some (.inr (.inr (some a0))), some (.inr (.inr (some a1))), some (.inr (.inr (some a2))), some (.inl x1), some (.inl z), some (.inl x28), some (.inl x33), some (.inl x80)]) rfl rfl (fun _ => rfl) (fun x108 e109 => ?_)
                have t110 := ti_add e109 (by omega) (by omega)
                refine ur_go rfl ?_
                have z111 := any_r x1
                have z112 := any_r x108
                exact ih8 x1 x108 _ _ _ _ hO107 (hu9.tr hu107) (by omega) (by omega)
              · refine ur_swi (t := 177) rfl (by rw [t82]; rfl) ?_
                refine ur_incV (fun z => [some (.inr (.inr (some a0))), some (.inr (.inr (some a1))), some (.inr (.inr (some a2))), some (.inl z), some (.inl x2), some (.inl x28), some (.inl x33), some (.inl x80)]) rfl rfl (fun _ => rfl) (fun x113 e114 => ?_)
                have z115 := any_r x1
                have t116 := ti_add e114 (by omega) (by omega)
                refine ur_ldI rfl rfl ?_
                refine ur_if1 rfl (fun c117 => ?_) (fun c117 => ?_)
                · have t118 := ne_to c117
                  refine ur_incV (fun z => [some (.inr (.inr (some a0))), some (.inr (.inr (some a1))), some (.inr (.inr (some a2))), some (.inl x113), some (.inl z), some (.inl x28), some (.inl x33), some (.inl x80)]) rfl rfl (fun _ => rfl) (fun x119 e120 => ?_)
                  have t121 := ti_add e120 (by omega) (by omega)
                  refine ur_go rfl ?_
                  have z122 := any_r x113
                  have z123 := any_r x119
                  exact ih8 x113 x119 _ _ _ _ hO9 hu9 (by omega) (by omega)
                · have t124 := ne_no c117
                  refine ur_ldI rfl rfl ?_
                  refine ur_ldI rfl rfl ?_
                  refine ur_push rfl ?_
                  refine ur_binV rfl (fun x125 e126 => ?_)
                  have z127 := any_r x33
                  have t128 := ti_sub e126 (by omega) (by omega)
                  refine ur_maxV rfl (by show ¬ 9 ≤ 2; decide) (fun x129 t130 e131 => ?_)
                  refine ur_svIk [some (.inr (.inr (some a0))), some (.inr (.inr (some a1))), some (.inr (.inr (some a2))), some (.inl x113), some (.inl x129), some (.inl x28), some (.inl x33), some (.inl x80)] rfl rfl ?_
                  refine ur_go rfl ?_
                  refine ur_incV (fun z => [some (.inr (.inr (some a0))), some (.inr (.inr (some a1))), some (.inr (.inr (some a2))), some (.inl x113), some (.inl z), some (.inl x28), some (.inl x33), some (.inl x80)]) rfl rfl (fun _ => rfl) (fun x132 e133 => ?_)
                  have z134 := any_r x129
                  have t135 := ti_add e133 (by omega) (by omega)
                  refine ur_go rfl ?_
                  have z136 := any_r x113
                  have z137 := any_r x132
                  exact ih8 x113 x132 _ _ _ _ hO9 hu9 (by omega) (by omega)
              · refine ur_swi (t := 199) rfl (by rw [t82]; rfl) ?_
                refine ur_ldI rfl rfl ?_
                exact ur_ret rfl rfl (hQ _ _ ⟨_, rfl⟩ hO9 hu9)
              · refine ur_swi (t := 202) rfl (Eq.trans (congrArg (fun z => ((110 : Nat) : Int) + z) (show Op.lookupswitch.offset [(2, 42), (3, 58), (14, 67), (15, 89)] 92 x28.toInt = 92 by simp only [Op.lookupswitch.offset_cons, Op.lookupswitch.offset_nil]; rw [if_neg (show ¬ ((2) : Int) = x28.toInt by omega), if_neg (show ¬ ((3) : Int) = x28.toInt by omega), if_neg (show ¬ ((14) : Int) = x28.toInt by omega), if_neg (show ¬ ((15) : Int) = x28.toInt by omega)])) rfl) ?_
                refine ur_ldI rfl rfl ?_
                refine ur_push rfl ?_
                refine ur_if2 rfl (fun c138 => ?_) (fun c138 => ?_)
                · have t139 := le_to c138
                  refine ur_incV (fun z => [some (.inr (.inr (some a0))), some (.inr (.inr (some a1))), some (.inr (.inr (some a2))), some (.inl z), some (.inl x2), some (.inl x28), some (.inl x33), some (.inl x80)]) rfl rfl (fun _ => rfl) (fun x140 e141 => ?_)
                  have z142 := any_r x1
                  have t143 := ti_add e141 (by omega) (by omega)
                  refine ur_ldA rfl rfl ?_
                  refine ur_ldI rfl rfl ?_
                  refine ur_ldI rfl rfl ?_
                  refine ur_ldA rfl rfl ?_
                  refine ur_ldI rfl rfl ?_
                  refine ur_aldV rfl hc76 hn78 (by omega) (fun x144 hx145 => ?_)
                  refine ur_ldI rfl rfl ?_
                  refine ur_inl rfl rfl (Nat.le_of_ble_eq_true rfl) (Nat.le_of_ble_eq_true rfl) (sf_X9_joined _ _ _ (fun w146 hr147 => ?_))
                  obtain ⟨x148, rfl⟩ := hr147
                  show uRun _ (uCall Mt _) _ 224 (_, [(.inl x148), (.inl x140), (.inr (.inr (some a2)))], _, _, _)
                  refine ur_astV (W := []) (m := 64) rfl hO9 hc76 (by decide) hn78 (by omega) (any_w r2 _) (Or.inl w2) (fun h151 hO151 hu151 d149 hc150 => ?_)
                  refine ur_incV (fun z => [some (.inr (.inr (some a0))), some (.inr (.inr (some a1))), some (.inr (.inr (some a2))), some (.inl x140), some (.inl z), some (.inl x28), some (.inl x33), some (.inl x80)]) rfl rfl (fun _ => rfl) (fun x152 e153 => ?_)
                  have t154 := ti_add e153 (by omega) (by omega)
                  refine ur_go rfl ?_
                  have z155 := any_r x140
                  have z156 := any_r x152
                  exact ih8 x140 x152 _ _ _ _ hO151 (hu9.tr hu151) (by omega) (by omega)
                · have t157 := le_no c138
                  refine ur_push rfl ?_
                  exact ur_ret rfl rfl (hQ _ _ ⟨_, rfl⟩ hO9 hu9)
            · have t158 := le_no c74
              refine ur_push rfl ?_
              exact ur_ret rfl rfl (hQ _ _ ⟨_, rfl⟩ hO9 hu9)
          · have t159 := ne_no c72
            refine ur_ldI rfl rfl ?_
            refine ur_push rfl ?_
            refine ur_binV rfl (fun x160 e161 => ?_)
            have z162 := any_r x1
            have t163 := ti_add e161 (by omega) (by omega)
            refine ur_ldA rfl rfl ?_
            obtain ⟨xs165, hc164, hn166, he167⟩ := hO9.int (hu9.tm t2 (by decide))
            refine ur_lenV (m := 64) rfl hc164 hn166 (by decide) (fun x168 t169 => ?_)
            have z170 := any_r x160
            have z171 := any_r x168
            refine ur_if2 rfl (fun c172 => ?_) (fun c172 => ?_)
            · have t173 := le_to c172
              refine ur_push rfl ?_
              exact ur_ret rfl rfl (hQ _ _ ⟨_, rfl⟩ hO9 hu9)
            · have t174 := le_no c172
              refine ur_ldI rfl rfl ?_
              refine ur_if1 rfl (fun c175 => ?_) (fun c175 => ?_)
              · have t176 := le_to c175
                refine ur_incV (fun z => [some (.inr (.inr (some a0))), some (.inr (.inr (some a1))), some (.inr (.inr (some a2))), some (.inl z), some (.inl x2), some (.inl x28), some (.inl x33), u5]) rfl rfl (fun _ => rfl) (fun x177 e178 => ?_)
                have t179 := ti_add e178 (by omega) (by omega)
                refine ur_ldA rfl rfl ?_
                refine ur_ldI rfl rfl ?_
                refine ur_ldI rfl rfl ?_
                refine ur_if1 rfl (fun c180 => ?_) (fun c180 => ?_)
                · have t181 := ne_to c180
                  refine ur_ldI rfl rfl ?_
                  refine ur_ldA rfl rfl ?_
                  obtain ⟨xs183, hc182, hn184, he185⟩ := hO9.int (hu9.tm t1 (by decide))
                  refine ur_lenV (m := 10) rfl hc182 hn184 (by decide) (fun x186 t187 => ?_)
                  have z188 := any_r x33
                  have z189 := any_r x186
                  refine ur_if2 rfl (fun c190 => ?_) (fun c190 => ?_)
                  · have t191 := le_to c190
                    refine ur_push rfl ?_
                    refine ur_astV (W := []) (m := 64) rfl hO9 hc164 (by decide) hn166 (by omega) (any_w r2 _) (Or.inl w2) (fun h194 hO194 hu194 d192 hc193 => ?_)
                    refine ur_go rfl ?_
                    refine ur_incV (fun z => [some (.inr (.inr (some a0))), some (.inr (.inr (some a1))), some (.inr (.inr (some a2))), some (.inl x177), some (.inl z), some (.inl x28), some (.inl x33), u5]) rfl rfl (fun _ => rfl) (fun x195 e196 => ?_)
                    have t197 := ti_add e196 (by omega) (by omega)
                    refine ur_go rfl ?_
                    have z198 := any_r x177
                    have z199 := any_r x195
                    exact ih8 x177 x195 _ _ _ _ hO194 (hu9.tr hu194) (by omega) (by omega)
                  · have t200 := le_no c190
                    refine ur_ldA rfl rfl ?_
                    refine ur_ldI rfl rfl ?_
                    refine ur_aldV rfl hc182 hn184 (by omega) (fun x201 hx202 => ?_)
                    refine ur_go rfl ?_
                    refine ur_astV (W := []) (m := 64) rfl hO9 hc164 (by decide) hn166 (by omega) (any_w r2 _) (Or.inl w2) (fun h205 hO205 hu205 d203 hc204 => ?_)
                    refine ur_go rfl ?_
                    refine ur_incV (fun z => [some (.inr (.inr (some a0))), some (.inr (.inr (some a1))), some (.inr (.inr (some a2))), some (.inl x177), some (.inl z), some (.inl x28), some (.inl x33), u5]) rfl rfl (fun _ => rfl) (fun x206 e207 => ?_)
                    have t208 := ti_add e207 (by omega) (by omega)
                    refine ur_go rfl ?_
                    have z209 := any_r x177
                    have z210 := any_r x206
                    exact ih8 x177 x206 _ _ _ _ hO205 (hu9.tr hu205) (by omega) (by omega)
                · have t211 := ne_no c180
                  exfalso
                  omega
              · have t212 := le_no c175
                refine ur_push rfl ?_
                exact ur_ret rfl rfl (hQ _ _ ⟨_, rfl⟩ hO9 hu9)
  exact L6 _ (-1) 0 (none) (none) (none) _ hO0 un.rf (by omega) (Nat.lt_succ_self _)

set_option maxRecDepth 20000 in
set_option maxHeartbeats 4000000 in
theorem sf_X1_reckonedDay {d kc ks : Nat} {h0 : aH} {Q : Option aV → aH → Prop} (hO0 : OK h0) {a1 : Nat} (g1 : 114 ≤ a1) (t1 : tg h0 a1 = (110, 13)) (a2 : Int32) (hQ : ∀ r h', (∃ x, r = some (.inl x)) → OK h' → un [] h0 h' → Q r h') : uCall Mt (d + 4) 15 [(.inr (.inr (some 15))), (.inr (.inr (some a1))), (.inl a2)] h0 kc ks Q := by
  have l_m2000000 : ((-2000000) : Int32).toInt = -2000000 := by decide
  have l_5 : ((5) : Int32).toInt = 5 := by decide
  have l_7 : ((7) : Int32).toInt = 7 := by decide
  have l_8 : ((8) : Int32).toInt = 8 := by decide
  have l_9 : ((9) : Int32).toInt = 9 := by decide
  have l_30 : ((30) : Int32).toInt = 30 := by decide
  have l_360 : ((360) : Int32).toInt = 360 := by decide
  have l_2000000 : ((2000000) : Int32).toInt = 2000000 := by decide
  refine uc_ink [some (.inr (.inr (some 15))), some (.inr (.inr (some a1))), some (.inl a2), none, none] mt_15 (Nat.le_of_ble_eq_true rfl) rfl ?_
  refine ur_ldA rfl rfl ?_
  refine ur_ldA rfl rfl ?_
  obtain ⟨g17, f2, f3, f4, f5, f6, f7, f8, f9, f10, o14, f11, f12, f13, hc1, k15, k16⟩ := hO0.word t1
  refine ur_get rfl hc1 rfl ?_
  obtain ⟨f19, f20, f21, f22, hc18, k23⟩ := ok_15 hO0
  refine ur_inl rfl (rcv_of hc18) (Nat.le_of_ble_eq_true rfl) (Nat.le_of_ble_eq_true rfl) (sf_X1_reckoningOf hO0 _ (fun w24 hr25 => ?_))
  obtain ⟨o26, rfl, k27⟩ := hr25
  show uRun _ (uCall Mt _) _ 8 (_, [(.inr (.inr o26))], _, _, _)
  refine ur_svAk [some (.inr (.inr (some 15))), some (.inr (.inr (some a1))), some (.inl a2), some (.inr (.inr o26)), none] rfl rfl ?_
  refine ur_push rfl ?_
  refine ur_ldA rfl rfl ?_
  refine ur_get rfl hc1 rfl ?_
  refine ur_binV rfl (fun x28 e29 => ?_)
  have z30 := any_r f7
  refine ur_push rfl ?_
  refine ur_ldA rfl rfl ?_
  refine ur_get rfl hc1 rfl ?_
  refine ur_binV rfl (fun x31 e32 => ?_)
  have z33 := any_r f8
  refine ur_binV rfl (fun x34 e35 => ?_)
  have z36 := any_r x28
  have z37 := any_r x31
  refine ur_ldA rfl rfl ?_
  refine ur_get rfl hc1 rfl ?_
  refine ur_binV rfl (fun x38 e39 => ?_)
  have z40 := any_r x34
  have z41 := any_r f9
  refine ur_svIk [some (.inr (.inr (some 15))), some (.inr (.inr (some a1))), some (.inl a2), some (.inr (.inr o26)), some (.inl x38)] rfl rfl ?_
  refine ur_ldA rfl rfl ?_
  cases o26 with
  | none =>
    refine ur_nulN rfl ?_
    refine ur_push rfl ?_
    refine ur_push rfl ?_
    refine ur_ldI rfl rfl ?_
    refine ur_minV rfl (by show ¬ 9 ≤ 3; decide) (fun x43 t44 e45 => ?_)
    refine ur_maxV rfl (by show ¬ 9 ≤ 2; decide) (fun x46 t47 e48 => ?_)
    exact ur_ret rfl rfl (hQ _ _ ⟨_, rfl⟩ hO0 un.rf)
  | some r42 =>
    refine ur_nulS rfl ?_
    have k49 := k27 _ rfl
    refine ur_ldA rfl rfl ?_
    obtain ⟨g54, f51, hc50, k52, k53⟩ := hO0.text k49.2
    refine ur_inl rfl (rcv_of hc50) (Nat.le_of_ble_eq_true rfl) (Nat.le_of_ble_eq_true rfl) (sf_X9_isTold hO0 k49.2 (fun w55 hr56 => ?_))
    obtain ⟨b57, rfl⟩ := hr56
    show uRun _ (uCall Mt _) _ 40 (_, [(.inl (bi b57))], _, _, _)
    refine ur_eqB rfl (fun c58 => ?_) (fun c58 => ?_)
    · refine ur_push rfl ?_
      refine ur_push rfl ?_
      refine ur_ldI rfl rfl ?_
      refine ur_minV rfl (by show ¬ 9 ≤ 3; decide) (fun x59 t60 e61 => ?_)
      refine ur_maxV rfl (by show ¬ 9 ≤ 2; decide) (fun x62 t63 e64 => ?_)
      exact ur_ret rfl rfl (hQ _ _ ⟨_, rfl⟩ hO0 un.rf)
    · refine ur_ldA rfl rfl ?_
      refine ur_get rfl hc18 rfl ?_
      refine ur_push rfl ?_
      refine ur_ldA rfl rfl ?_
      refine ur_get rfl hc1 rfl ?_
      obtain ⟨xs66, hc65, hn67, he68⟩ := hO0.int (hO0.fix 20 (by decide) rfl)
      refine ur_astV (W := []) (m := 10) rfl hO0 hc65 (by decide) hn67 (by omega) (any_r _) (Or.inl rfl) (fun h71 hO71 hu71 d69 hc70 => ?_)
      refine ur_ldA rfl rfl ?_
      refine ur_get rfl ((d69 _ (by decide)).trans hc18) rfl ?_
      refine ur_push rfl ?_
      refine ur_ldA rfl rfl ?_
      refine ur_get rfl ((d69 _ (ne_tg (hu71.tm t1 (by decide)) (hO71.fix 20 (by decide) rfl) (by decide))).trans hc1) rfl ?_
      obtain ⟨xs73, hc72, hn74, he75⟩ := hO71.int (hO71.fix 20 (by decide) rfl)
      refine ur_astV (W := []) (m := 10) rfl hO71 hc72 (by decide) hn74 (by omega) (any_r _) (Or.inl rfl) (fun h78 hO78 hu78 d76 hc77 => ?_)
      refine ur_ldA rfl rfl ?_
      refine ur_get rfl ((d76 _ (by decide)).trans ((d69 _ (by decide)).trans hc18)) rfl ?_
      refine ur_push rfl ?_
      refine ur_ldA rfl rfl ?_
      have hc79 := ((d76 _ (ne_tg (hu78.tm (hu71.tm t1 (by decide)) (by decide)) (hO78.fix 20 (by decide) rfl) (by decide))).trans ((d69 _ (ne_tg (hu71.tm t1 (by decide)) (hO71.fix 20 (by decide) rfl) (by decide))).trans hc1))
      refine ur_get rfl hc79 rfl ?_
      obtain ⟨xs81, hc80, hn82, he83⟩ := hO78.int (hO78.fix 20 (by decide) rfl)
      refine ur_astV (W := []) (m := 10) rfl hO78 hc80 (by decide) hn82 (by omega) (any_r _) (Or.inl rfl) (fun h86 hO86 hu86 d84 hc85 => ?_)
      refine ur_ldA rfl rfl ?_
      refine ur_get rfl ((d84 _ (by decide)).trans ((d76 _ (by decide)).trans ((d69 _ (by decide)).trans hc18))) rfl ?_
      refine ur_push rfl ?_
      refine ur_ldI rfl rfl ?_
      obtain ⟨xs88, hc87, hn89, he90⟩ := hO86.int (hO86.fix 20 (by decide) rfl)
      refine ur_astV (W := []) (m := 10) rfl hO86 hc87 (by decide) hn89 (by omega) (any_r _) (Or.inl rfl) (fun h93 hO93 hu93 d91 hc92 => ?_)
      refine ur_ldA rfl rfl ?_
      refine ur_ldA rfl rfl ?_
      refine ur_get rfl ((d91 _ (by decide)).trans ((d84 _ (by decide)).trans ((d76 _ (by decide)).trans ((d69 _ (by decide)).trans hc18)))) rfl ?_
      refine ur_ldA rfl rfl ?_
      refine ur_get rfl ((d91 _ (by decide)).trans ((d84 _ (by decide)).trans ((d76 _ (by decide)).trans ((d69 _ (by decide)).trans hc18)))) rfl ?_
      have hc94 := ((d91 _ (ne_tg (hu93.tm (hu86.tm (hu78.tm (hu71.tm k49.2 (by decide)) (by decide)) (by decide)) (by decide)) (hO93.fix 20 (by decide) rfl) (by decide))).trans ((d84 _ (ne_tg (hu93.tm (hu86.tm (hu78.tm (hu71.tm k49.2 (by decide)) (by decide)) (by decide)) (by decide)) (hO93.fix 20 (by decide) rfl) (by decide))).trans ((d76 _ (ne_tg (hu93.tm (hu86.tm (hu78.tm (hu71.tm k49.2 (by decide)) (by decide)) (by decide)) (by decide)) (hO93.fix 20 (by decide) rfl) (by decide))).trans ((d69 _ (ne_tg (hu93.tm (hu86.tm (hu78.tm (hu71.tm k49.2 (by decide)) (by decide)) (by decide)) (by decide)) (hO93.fix 20 (by decide) rfl) (by decide))).trans hc50))))
      refine ur_inl rfl (rcv_of hc94) (Nat.le_of_ble_eq_true rfl) (Nat.le_of_ble_eq_true rfl) (sf_X9_valueWith hO93 (hu93.tm (hu86.tm (hu78.tm (hu71.tm k49.2 (by decide)) (by decide)) (by decide)) (by decide)) (hO93.fix 20 (by decide) rfl) (hO93.fix 21 (by decide) rfl) rfl rfl (fun w95 h97 hr96 hO97 hv97 => ?_))
      have hu97 := hv97
      obtain ⟨x98, rfl⟩ := hr96
      show uRun _ (uCall Mt _) _ 95 (_, [(.inl x98)], _, _, _)
      refine ur_svIk [some (.inr (.inr (some 15))), some (.inr (.inr (some a1))), some (.inl a2), some (.inr (.inr (some r42))), some (.inl x98)] rfl rfl ?_
      refine ur_push rfl ?_
      refine ur_push rfl ?_
      refine ur_ldI rfl rfl ?_
      refine ur_minV rfl (by show ¬ 9 ≤ 3; decide) (fun x99 t100 e101 => ?_)
      refine ur_maxV rfl (by show ¬ 9 ≤ 2; decide) (fun x102 t103 e104 => ?_)
      exact ur_ret rfl rfl (hQ _ _ ⟨_, rfl⟩ hO97 (hu71.tr (hu78.tr (hu86.tr (hu93.tr hu97)))))

set_option maxRecDepth 20000 in
set_option maxHeartbeats 4000000 in
theorem sf_X1_settleSpans {d kc ks : Nat} {h0 : aH} {Q : Option aV → aH → Prop} (hO0 : OK h0) {a1 : Nat} (g1 : 114 ≤ a1) (t1 : tg h0 a1 = (110, 13)) (hQ : ∀ r h', (r = none) → OK h' → un [22010, 22011, 22012] h0 h' → Q r h') : uCall Mt (d + 5) 14 [(.inr (.inr (some 15))), (.inr (.inr (some a1)))] h0 kc ks Q := by
  have l_m1 : ((-1) : Int32).toInt = -1 := by decide
  have l_0 : ((0) : Int32).toInt = 0 := by decide
  have l_1 : ((1) : Int32).toInt = 1 := by decide
  have l_2 : ((2) : Int32).toInt = 2 := by decide
  have l_3 : ((3) : Int32).toInt = 3 := by decide
  refine uc_ink [some (.inr (.inr (some 15))), some (.inr (.inr (some a1))), none, none] mt_14 (Nat.le_of_ble_eq_true rfl) rfl ?_
  refine ur_ldA rfl rfl ?_
  obtain ⟨g17, f2, f3, f4, f5, f6, f7, f8, f9, f10, o14, f11, f12, f13, hc1, k15, k16⟩ := hO0.word t1
  refine ur_get rfl hc1 rfl ?_
  refine ur_push rfl ?_
  refine ur_if2 rfl (fun c18 => ?_) (fun c18 => ?_)
  · have t19 := ne_to c18
    refine ur_ldA rfl rfl ?_
    refine ur_ldA rfl rfl ?_
    refine ur_get rfl hc1 rfl ?_
    obtain ⟨f21, f22, f23, f24, hc20, k25⟩ := ok_15 hO0
    refine ur_inl rfl (rcv_of hc20) (Nat.le_of_ble_eq_true rfl) (Nat.le_of_ble_eq_true rfl) (sf_X1_isToldReign hO0 _ (fun w26 hr27 => ?_))
    obtain ⟨b28, rfl, t29⟩ := hr27
    show uRun _ (uCall Mt _) _ 17 (_, [(.inl (bi b28))], _, _, _)
    refine ur_neB rfl (fun c30 => ?_) (fun c30 => ?_)
    · have t31 := t29 c30
      refine ur_ldA rfl rfl ?_
      refine ur_ldA rfl rfl ?_
      refine ur_ldA rfl rfl ?_
      refine ur_get rfl hc20 rfl ?_
      refine ur_ldA rfl rfl ?_
      refine ur_get rfl hc1 rfl ?_
      obtain ⟨xs33, hc32, hn34, he35⟩ := hO0.int (hO0.fix 17 (by decide) rfl)
      refine ur_aldV rfl hc32 hn34 (by omega) (fun x36 hx37 => ?_)
      refine ur_inl rfl (rcv_of hc20) (Nat.le_of_ble_eq_true rfl) (Nat.le_of_ble_eq_true rfl) (sf_X1_reckonedDay hO0 g17 t1 _ (fun w38 h40 hr39 hO40 hv40 => ?_))
      have hu40 : un [22010, 22011, 22012] h0 h40 := hv40.mono (by decide)
      obtain ⟨x41, rfl⟩ := hr39
      show uRun _ (uCall Mt _) _ 47 (_, [(.inl x41)], _, _, _)
      refine ur_svIk [some (.inr (.inr (some 15))), some (.inr (.inr (some a1))), some (.inl x41), none] rfl rfl ?_
      refine ur_ldA rfl rfl ?_
      refine ur_get rfl (hv40.ko (n := 11) hc20 rfl (wid_f (by decide)) (by decide)) rfl ?_
      refine ur_ldA rfl rfl ?_
      refine ur_get rfl (hv40.ko (n := 13) hc1 rfl (wid_w g17) (by decide)) rfl ?_
      obtain ⟨xs43, hc42, hn44, he45⟩ := hO40.int (hO40.fix 18 (by decide) rfl)
      refine ur_aldV rfl hc42 hn44 (by omega) (fun x46 hx47 => ?_)
      refine ur_svIk [some (.inr (.inr (some 15))), some (.inr (.inr (some a1))), some (.inl x41), some (.inl x46)] rfl rfl ?_
      refine ur_ldI rfl rfl ?_
      refine ur_push rfl ?_
      refine ur_if2 rfl (fun c48 => ?_) (fun c48 => ?_)
      · have t49 := ne_to c48
        refine ur_ldA rfl rfl ?_
        refine ur_push rfl ?_
        refine ur_ldI rfl rfl ?_
        refine ur_ldA rfl rfl ?_
        refine ur_ldA rfl rfl ?_
        refine ur_ldI rfl rfl ?_
        refine ur_inl rfl (rcv_of (hv40.ko (n := 11) hc20 rfl (wid_f (by decide)) (by decide))) (Nat.le_of_ble_eq_true rfl) (Nat.le_of_ble_eq_true rfl) (sf_X1_reckonedDay hO40 g17 (hu40.tm t1 (by decide)) _ (fun w50 h52 hr51 hO52 hv52 => ?_))
        have hu52 : un [22010, 22011, 22012] h40 h52 := hv52.mono (by decide)
        obtain ⟨x53, rfl⟩ := hr51
        show uRun _ (uCall Mt _) _ 82 (_, [(.inl x53), (.inl x41), (.inl 2), (.inr (.inr (some a1)))], _, _, _)
        refine ur_inl rfl (rcv_of (hv52.ko (n := 13) (hv40.ko (n := 13) hc1 rfl (wid_w g17) (by decide)) rfl (wid_w g17) (by decide))) (Nat.le_of_ble_eq_true rfl) (Nat.le_of_ble_eq_true rfl) (sf_X10_settle hO52 g17 (hu52.tm (hu40.tm t1 (by decide)) (by decide)) _ _ _ (fun w54 h56 hr55 hO56 hv56 => ?_))
        have hu56 := hv56
        subst hr55
        show uRun _ (uCall Mt _) _ 85 (_, [], _, _, _)
        exact ur_ret0 rfl (hQ _ _ rfl hO56 (hu40.tr (hu52.tr hu56)))
      · have t57 := ne_no c48
        refine ur_ldA rfl rfl ?_
        refine ur_push rfl ?_
        refine ur_ldI rfl rfl ?_
        refine ur_push rfl ?_
        refine ur_inl rfl (rcv_of (hv40.ko (n := 13) hc1 rfl (wid_w g17) (by decide))) (Nat.le_of_ble_eq_true rfl) (Nat.le_of_ble_eq_true rfl) (sf_X10_settle hO40 g17 (hu40.tm t1 (by decide)) _ _ _ (fun w58 h60 hr59 hO60 hv60 => ?_))
        have hu60 := hv60
        subst hr59
        show uRun _ (uCall Mt _) _ 70 (_, [], _, _, _)
        refine ur_go rfl ?_
        exact ur_ret0 rfl (hQ _ _ rfl hO60 (hu40.tr hu60))
    · refine ur_ldA rfl rfl ?_
      refine ur_push rfl ?_
      refine ur_ldA rfl rfl ?_
      refine ur_ldA rfl rfl ?_
      refine ur_push rfl ?_
      refine ur_inl rfl (rcv_of hc20) (Nat.le_of_ble_eq_true rfl) (Nat.le_of_ble_eq_true rfl) (sf_X1_reckonedDay hO0 g17 t1 _ (fun w61 h63 hr62 hO63 hv63 => ?_))
      have hu63 : un [22010, 22011, 22012] h0 h63 := hv63.mono (by decide)
      obtain ⟨x64, rfl⟩ := hr62
      show uRun _ (uCall Mt _) _ 28 (_, [(.inl x64), (.inl 1), (.inr (.inr (some a1)))], _, _, _)
      refine ur_push rfl ?_
      refine ur_inl rfl (rcv_of (hv63.ko (n := 13) hc1 rfl (wid_w g17) (by decide))) (Nat.le_of_ble_eq_true rfl) (Nat.le_of_ble_eq_true rfl) (sf_X10_settle hO63 g17 (hu63.tm t1 (by decide)) _ _ _ (fun w65 h67 hr66 hO67 hv67 => ?_))
      have hu67 := hv67
      subst hr66
      show uRun _ (uCall Mt _) _ 32 (_, [], _, _, _)
      exact ur_ret0 rfl (hQ _ _ rfl hO67 (hu63.tr hu67))
  · have t68 := ne_no c18
    exact ur_ret0 rfl (hQ _ _ rfl hO0 un.rf)

set_option maxRecDepth 20000 in
set_option maxHeartbeats 4000000 in
theorem sf_X1_settleWordsOf {d kc ks : Nat} {h0 : aH} {Q : Option aV → aH → Prop} (hO0 : OK h0) (a1 : Int32) (hQ : ∀ r h', (r = none) → OK h' → un [22010, 22011, 22012] h0 h' → Q r h') : uCall Mt (d + 6) 13 [(.inr (.inr (some 15))), (.inl a1)] h0 kc ks Q := by
  have l_0 : ((0) : Int32).toInt = 0 := by decide
  have l_1 : ((1) : Int32).toInt = 1 := by decide
  refine uc_ink [some (.inr (.inr (some 15))), some (.inl a1), none, none] mt_13 (Nat.le_of_ble_eq_true rfl) rfl ?_
  refine ur_push rfl ?_
  refine ur_svIk [some (.inr (.inr (some 15))), some (.inl a1), some (.inl 0), none] rfl rfl ?_
  have L3 : ∀ (m4 : Nat) (x1 : Int32) (u2 : Option aV) (h6 : aH) , OK h6 → un [22010, 22011, 22012] h0 h6 → ((0 ≤ x1.toInt ∧ x1.toInt ≤ 2147483647)) → ((2147483648 - x1.toInt).toNat) < m4 → uRun oX1_settleWordsOf (uCall Mt (d + 5)) Q 2 ([some (.inr (.inr (some 15))), some (.inl a1), some (.inl x1), u2], [], h6, kc, ks) := by
    intro m4
    induction m4 with
    | zero => intro x1 u2 h6 hO6 hu6 iv7 mm8; omega
    | succ m4 ih5 =>
      intro x1 u2 h6 hO6 hu6 iv7 mm8
      refine ur_ldI rfl rfl ?_
      refine ur_ldA rfl rfl ?_
      obtain ⟨f10, f11, f12, f13, hc9, k14⟩ := ok_15 hO6
      refine ur_get rfl hc9 rfl ?_
      have z15 := any_r x1
      have z16 := any_r f10
      refine ur_if2 rfl (fun c17 => ?_) (fun c17 => ?_)
      · have t18 := le_to c17
        exact ur_ret0 rfl (hQ _ _ rfl hO6 hu6)
      · have t19 := le_no c17
        refine ur_ldA rfl rfl ?_
        refine ur_ldI rfl rfl ?_
        refine ur_inl rfl (rcv_of hc9) (Nat.le_of_ble_eq_true rfl) (Nat.le_of_ble_eq_true rfl) (sf_X1_wordAt hO6 _ (fun w20 hr21 => ?_))
        obtain ⟨o22, rfl, k23⟩ := hr21
        show uRun _ (uCall Mt _) _ 15 (_, [(.inr (.inr o22))], _, _, _)
        refine ur_svAk [some (.inr (.inr (some 15))), some (.inl a1), some (.inl x1), some (.inr (.inr o22))] rfl rfl ?_
        refine ur_ldA rfl rfl ?_
        cases o22 with
        | none =>
          refine ur_nulN rfl ?_
          refine ur_incV (fun z => [some (.inr (.inr (some 15))), some (.inl a1), some (.inl z), some (.inr (.inr none))]) rfl rfl (fun _ => rfl) (fun x25 e26 => ?_)
          have t27 := ti_add e26 (by omega) (by omega)
          refine ur_go rfl ?_
          have z28 := any_r x25
          exact ih5 x25 _ _ hO6 hu6 (by omega) (by omega)
        | some r24 =>
          refine ur_nulS rfl ?_
          have k29 := k23 _ rfl
          refine ur_ldA rfl rfl ?_
          obtain ⟨g46, f31, f32, f33, f34, f35, f36, f37, f38, f39, o43, f40, f41, f42, hc30, k44, k45⟩ := hO6.word k29.2
          refine ur_get rfl hc30 rfl ?_
          refine ur_ldI rfl rfl ?_
          have z47 := any_r f33
          have z48 := any_r a1
          refine ur_if2 rfl (fun c49 => ?_) (fun c49 => ?_)
          · have t50 := ne_to c49
            refine ur_incV (fun z => [some (.inr (.inr (some 15))), some (.inl a1), some (.inl z), some (.inr (.inr (some r24)))]) rfl rfl (fun _ => rfl) (fun x51 e52 => ?_)
            have t53 := ti_add e52 (by omega) (by omega)
            refine ur_go rfl ?_
            have z54 := any_r x51
            exact ih5 x51 _ _ hO6 hu6 (by omega) (by omega)
          · have t55 := ne_no c49
            refine ur_ldA rfl rfl ?_
            refine ur_ldA rfl rfl ?_
            refine ur_inl rfl (rcv_of hc9) (Nat.le_of_ble_eq_true rfl) (Nat.le_of_ble_eq_true rfl) (sf_X1_settleSpans hO6 g46 k29.2 (fun w56 h58 hr57 hO58 hv58 => ?_))
            have hu58 := hv58
            subst hr57
            show uRun _ (uCall Mt _) _ 33 (_, [], _, _, _)
            refine ur_incV (fun z => [some (.inr (.inr (some 15))), some (.inl a1), some (.inl z), some (.inr (.inr (some r24)))]) rfl rfl (fun _ => rfl) (fun x59 e60 => ?_)
            have t61 := ti_add e60 (by omega) (by omega)
            refine ur_go rfl ?_
            have z62 := any_r x59
            exact ih5 x59 _ _ hO58 (hu6.tr hu58) (by omega) (by omega)
  exact L3 _ 0 (none) _ hO0 un.rf (by omega) (Nat.lt_succ_self _)

set_option maxRecDepth 20000 in
set_option maxHeartbeats 4000000 in
theorem sf_X1_firstCommonDay {d kc ks : Nat} {h0 : aH} {Q : Option aV → aH → Prop} (hO0 : OK h0) {a1 : Nat} (g1 : 114 ≤ a1) (t1 : tg h0 a1 = (110, 13)) {a2 : Nat} (g2 : 114 ≤ a2) (t2 : tg h0 a2 = (110, 13)) (hQ : ∀ r, (∃ x, r = some (.inl x)) → Q r h0) : uCall Mt (d + 3) 16 [(.inr (.inr (some 15))), (.inr (.inr (some a1))), (.inr (.inr (some a2)))] h0 kc ks Q := by
  have l_m1 : ((-1) : Int32).toInt = -1 := by decide
  have l_0 : ((0) : Int32).toInt = 0 := by decide
  have l_1 : ((1) : Int32).toInt = 1 := by decide
  refine uc_ink [some (.inr (.inr (some 15))), some (.inr (.inr (some a1))), some (.inr (.inr (some a2))), none, none, none, none, none] mt_16 (Nat.le_of_ble_eq_true rfl) rfl ?_
  refine ur_push rfl ?_
  refine ur_svIk [some (.inr (.inr (some 15))), some (.inr (.inr (some a1))), some (.inr (.inr (some a2))), some (.inl (-1)), none, none, none, none] rfl rfl ?_
  refine ur_push rfl ?_
  refine ur_svIk [some (.inr (.inr (some 15))), some (.inr (.inr (some a1))), some (.inr (.inr (some a2))), some (.inl (-1)), some (.inl 0), none, none, none] rfl rfl ?_
  have L6 : ∀ (m7 : Nat) (x1 : Int32) (x2 : Int32) (u3 : Option aV) (u4 : Option aV) (u5 : Option aV) , ((0 ≤ x2.toInt ∧ x2.toInt ≤ 2147483647)) → ((2147483648 - x2.toInt).toNat) < m7 → uRun oX1_firstCommonDay (uCall Mt (d + 2)) Q 5 ([some (.inr (.inr (some 15))), some (.inr (.inr (some a1))), some (.inr (.inr (some a2))), some (.inl x1), some (.inl x2), u3, u4, u5], [], h0, kc, ks) := by
    intro m7
    induction m7 with
    | zero => intro x1 x2 u3 u4 u5 iv9 mm10; omega
    | succ m7 ih8 =>
      intro x1 x2 u3 u4 u5 iv9 mm10
      refine ur_ldI rfl rfl ?_
      refine ur_ldA rfl rfl ?_
      obtain ⟨g27, f12, f13, f14, f15, f16, f17, f18, f19, f20, o24, f21, f22, f23, hc11, k25, k26⟩ := hO0.word t1
      refine ur_get rfl hc11 rfl ?_
      have z28 := any_r x2
      have z29 := any_r f21
      refine ur_if2 rfl (fun c30 => ?_) (fun c30 => ?_)
      · have t31 := le_to c30
        refine ur_ldI rfl rfl ?_
        exact ur_ret rfl rfl (hQ _ ⟨_, rfl⟩ )
      · have t32 := le_no c30
        refine ur_push rfl ?_
        refine ur_svIk [some (.inr (.inr (some 15))), some (.inr (.inr (some a1))), some (.inr (.inr (some a2))), some (.inl x1), some (.inl x2), some (.inl 0), u4, u5] rfl rfl ?_
        have L37 : ∀ (m38 : Nat) (x33 : Int32) (x34 : Int32) (u35 : Option aV) (u36 : Option aV) , ((0 ≤ x34.toInt ∧ x34.toInt ≤ 2147483647)) → ((2147483648 - x34.toInt).toNat) < m38 → uRun oX1_firstCommonDay (uCall Mt (d + 2)) Q 17 ([some (.inr (.inr (some 15))), some (.inr (.inr (some a1))), some (.inr (.inr (some a2))), some (.inl x33), some (.inl x2), some (.inl x34), u35, u36], [], h0, kc, ks) := by
          intro m38
          induction m38 with
          | zero => intro x33 x34 u35 u36 iv40 mm41; omega
          | succ m38 ih39 =>
            intro x33 x34 u35 u36 iv40 mm41
            refine ur_ldI rfl rfl ?_
            refine ur_ldA rfl rfl ?_
            obtain ⟨g58, f43, f44, f45, f46, f47, f48, f49, f50, f51, o55, f52, f53, f54, hc42, k56, k57⟩ := hO0.word t2
            refine ur_get rfl hc42 rfl ?_
            have z59 := any_r x34
            have z60 := any_r f52
            refine ur_if2 rfl (fun c61 => ?_) (fun c61 => ?_)
            · have t62 := le_to c61
              refine ur_incV (fun z => [some (.inr (.inr (some 15))), some (.inr (.inr (some a1))), some (.inr (.inr (some a2))), some (.inl x33), some (.inl z), some (.inl x34), u35, u36]) rfl rfl (fun _ => rfl) (fun x63 e64 => ?_)
              have t65 := ti_add e64 (by omega) (by omega)
              refine ur_go rfl ?_
              have z66 := any_r x63
              exact ih8 x33 x63 _ _ _ (by omega) (by omega)
            · have t67 := le_no c61
              refine ur_ldA rfl rfl ?_
              refine ur_ldI rfl rfl ?_
              refine ur_inl rfl (rcv_of hc11) (Nat.le_of_ble_eq_true rfl) (Nat.le_of_ble_eq_true rfl) (sf_X10_spanFrom hO0 g27 t1 _ (fun w68 hr69 => ?_))
              obtain ⟨x70, rfl, t71⟩ := hr69
              show uRun _ (uCall Mt _) _ 32 (_, [(.inl x70)], _, _, _)
              refine ur_ldA rfl rfl ?_
              refine ur_ldI rfl rfl ?_
              refine ur_inl rfl (rcv_of hc42) (Nat.le_of_ble_eq_true rfl) (Nat.le_of_ble_eq_true rfl) (sf_X10_spanFrom hO0 g58 t2 _ (fun w72 hr73 => ?_))
              obtain ⟨x74, rfl, t75⟩ := hr73
              show uRun _ (uCall Mt _) _ 38 (_, [(.inl x74), (.inl x70)], _, _, _)
              refine ur_maxV rfl (by show ¬ 9 ≤ 2; decide) (fun x76 t77 e78 => ?_)
              refine ur_svIk [some (.inr (.inr (some 15))), some (.inr (.inr (some a1))), some (.inr (.inr (some a2))), some (.inl x33), some (.inl x2), some (.inl x34), some (.inl x76), u36] rfl rfl ?_
              refine ur_ldA rfl rfl ?_
              refine ur_ldI rfl rfl ?_
              refine ur_inl rfl (rcv_of hc11) (Nat.le_of_ble_eq_true rfl) (Nat.le_of_ble_eq_true rfl) (sf_X10_spanTo hO0 g27 t1 _ (fun w79 hr80 => ?_))
              obtain ⟨x81, rfl, t82⟩ := hr80
              show uRun _ (uCall Mt _) _ 49 (_, [(.inl x81)], _, _, _)
              refine ur_ldA rfl rfl ?_
              refine ur_ldI rfl rfl ?_
              refine ur_inl rfl (rcv_of hc42) (Nat.le_of_ble_eq_true rfl) (Nat.le_of_ble_eq_true rfl) (sf_X10_spanTo hO0 g58 t2 _ (fun w83 hr84 => ?_))
              obtain ⟨x85, rfl, t86⟩ := hr84
              show uRun _ (uCall Mt _) _ 55 (_, [(.inl x85), (.inl x81)], _, _, _)
              refine ur_minV rfl (by show ¬ 9 ≤ 2; decide) (fun x87 t88 e89 => ?_)
              refine ur_svIk [some (.inr (.inr (some 15))), some (.inr (.inr (some a1))), some (.inr (.inr (some a2))), some (.inl x33), some (.inl x2), some (.inl x34), some (.inl x76), some (.inl x87)] rfl rfl ?_
              refine ur_ldI rfl rfl ?_
              refine ur_ldI rfl rfl ?_
              have z90 := any_r x76
              have z91 := any_r x87
              refine ur_if2 rfl (fun c92 => ?_) (fun c92 => ?_)
              · have t93 := lt_to c92
                refine ur_incV (fun z => [some (.inr (.inr (some 15))), some (.inr (.inr (some a1))), some (.inr (.inr (some a2))), some (.inl x33), some (.inl x2), some (.inl z), some (.inl x76), some (.inl x87)]) rfl rfl (fun _ => rfl) (fun x94 e95 => ?_)
                have t96 := ti_add e95 (by omega) (by omega)
                refine ur_go rfl ?_
                have z97 := any_r x94
                exact ih39 x33 x94 _ _ (by omega) (by omega)
              · have t98 := lt_no c92
                refine ur_ldI rfl rfl ?_
                refine ur_push rfl ?_
                refine ur_if2 rfl (fun c99 => ?_) (fun c99 => ?_)
                · have t100 := eq_to c99
                  refine ur_ldI rfl rfl ?_
                  refine ur_svIk [some (.inr (.inr (some 15))), some (.inr (.inr (some a1))), some (.inr (.inr (some a2))), some (.inl x76), some (.inl x2), some (.inl x34), some (.inl x76), some (.inl x87)] rfl rfl ?_
                  refine ur_incV (fun z => [some (.inr (.inr (some 15))), some (.inr (.inr (some a1))), some (.inr (.inr (some a2))), some (.inl x76), some (.inl x2), some (.inl z), some (.inl x76), some (.inl x87)]) rfl rfl (fun _ => rfl) (fun x101 e102 => ?_)
                  have t103 := ti_add e102 (by omega) (by omega)
                  refine ur_go rfl ?_
                  have z104 := any_r x101
                  exact ih39 x76 x101 _ _ (by omega) (by omega)
                · have t105 := eq_no c99
                  refine ur_ldI rfl rfl ?_
                  refine ur_ldI rfl rfl ?_
                  have z106 := any_r x33
                  refine ur_if2 rfl (fun c107 => ?_) (fun c107 => ?_)
                  · have t108 := le_to c107
                    refine ur_incV (fun z => [some (.inr (.inr (some 15))), some (.inr (.inr (some a1))), some (.inr (.inr (some a2))), some (.inl x33), some (.inl x2), some (.inl z), some (.inl x76), some (.inl x87)]) rfl rfl (fun _ => rfl) (fun x109 e110 => ?_)
                    have t111 := ti_add e110 (by omega) (by omega)
                    refine ur_go rfl ?_
                    have z112 := any_r x109
                    exact ih39 x33 x109 _ _ (by omega) (by omega)
                  · have t113 := le_no c107
                    refine ur_ldI rfl rfl ?_
                    refine ur_svIk [some (.inr (.inr (some 15))), some (.inr (.inr (some a1))), some (.inr (.inr (some a2))), some (.inl x76), some (.inl x2), some (.inl x34), some (.inl x76), some (.inl x87)] rfl rfl ?_
                    refine ur_incV (fun z => [some (.inr (.inr (some 15))), some (.inr (.inr (some a1))), some (.inr (.inr (some a2))), some (.inl x76), some (.inl x2), some (.inl z), some (.inl x76), some (.inl x87)]) rfl rfl (fun _ => rfl) (fun x114 e115 => ?_)
                    have t116 := ti_add e115 (by omega) (by omega)
                    refine ur_go rfl ?_
                    have z117 := any_r x114
                    exact ih39 x76 x114 _ _ (by omega) (by omega)
        exact L37 _ x1 0 (u4) (u5) (by omega) (Nat.lt_succ_self _)
  exact L6 _ (-1) 0 (none) (none) (none) (by omega) (Nat.lt_succ_self _)

set_option maxRecDepth 20000 in
set_option maxHeartbeats 4000000 in
theorem sf_X1_countRoots {d kc ks : Nat} {h0 : aH} {Q : Option aV → aH → Prop} (hO0 : OK h0) (a1 : Int32) (hQ : ∀ r h', (∃ x, r = some (.inl x)) → OK h' → un [] h0 h' → Q r h') : uCall Mt (d + 2) 17 [(.inr (.inr (some 15))), (.inl a1)] h0 kc ks Q := by
  have l_0 : ((0) : Int32).toInt = 0 := by decide
  have l_1 : ((1) : Int32).toInt = 1 := by decide
  have l_149 : ((149) : Int32).toInt = 149 := by decide
  have l_150 : ((150) : Int32).toInt = 150 := by decide
  refine uc_ink [some (.inr (.inr (some 15))), some (.inl a1), none, none, none, none] mt_17 (Nat.le_of_ble_eq_true rfl) rfl ?_
  refine ur_push rfl ?_
  refine ur_svIk [some (.inr (.inr (some 15))), some (.inl a1), some (.inl 0), none, none, none] rfl rfl ?_
  have L2 : ∀ (m3 : Nat) (x1 : Int32) (h5 : aH) , OK h5 → un [] h0 h5 → ((0 ≤ x1.toInt ∧ x1.toInt ≤ 2147483647)) → ((2147483648 - x1.toInt).toNat) < m3 → uRun oX1_countRoots (uCall Mt (d + 1)) Q 2 ([some (.inr (.inr (some 15))), some (.inl a1), some (.inl x1), none, none, none], [], h5, kc, ks) := by
    intro m3
    induction m3 with
    | zero => intro x1 h5 hO5 hu5 iv6 mm7; omega
    | succ m3 ih4 =>
      intro x1 h5 hO5 hu5 iv6 mm7
      refine ur_ldI rfl rfl ?_
      refine ur_push rfl ?_
      refine ur_if2 rfl (fun c8 => ?_) (fun c8 => ?_)
      · have t9 := le_to c8
        refine ur_push rfl ?_
        refine ur_svIk [some (.inr (.inr (some 15))), some (.inl a1), some (.inl 0), none, none, none] rfl rfl ?_
        refine ur_push rfl ?_
        refine ur_svIk [some (.inr (.inr (some 15))), some (.inl a1), some (.inl 0), some (.inl 0), none, none] rfl rfl ?_
        have L14 : ∀ (m15 : Nat) (x10 : Int32) (x11 : Int32) (u12 : Option aV) (u13 : Option aV) (h17 : aH) , OK h17 → un [] h5 h17 → ((0 ≤ x11.toInt ∧ x11.toInt ≤ 2147483647)) → ((2147483648 - x11.toInt).toNat) < m15 → uRun oX1_countRoots (uCall Mt (d + 1)) Q 26 ([some (.inr (.inr (some 15))), some (.inl a1), some (.inl x10), some (.inl x11), u12, u13], [], h17, kc, ks) := by
          intro m15
          induction m15 with
          | zero => intro x10 x11 u12 u13 h17 hO17 hu17 iv18 mm19; omega
          | succ m15 ih16 =>
            intro x10 x11 u12 u13 h17 hO17 hu17 iv18 mm19
            refine ur_ldI rfl rfl ?_
            refine ur_ldA rfl rfl ?_
            obtain ⟨f21, f22, f23, f24, hc20, k25⟩ := ok_15 hO17
            refine ur_get rfl hc20 rfl ?_
            have z26 := any_r x11
            have z27 := any_r f21
            refine ur_if2 rfl (fun c28 => ?_) (fun c28 => ?_)
            · have t29 := le_to c28
              refine ur_ldI rfl rfl ?_
              exact ur_ret rfl rfl (hQ _ _ ⟨_, rfl⟩ hO17 (hu5.tr hu17))
            · have t30 := le_no c28
              refine ur_ldA rfl rfl ?_
              refine ur_ldI rfl rfl ?_
              refine ur_inl rfl (rcv_of hc20) (Nat.le_of_ble_eq_true rfl) (Nat.le_of_ble_eq_true rfl) (sf_X1_wordAt hO17 _ (fun w31 hr32 => ?_))
              obtain ⟨o33, rfl, k34⟩ := hr32
              show uRun _ (uCall Mt _) _ 39 (_, [(.inr (.inr o33))], _, _, _)
              refine ur_svAk [some (.inr (.inr (some 15))), some (.inl a1), some (.inl x10), some (.inl x11), some (.inr (.inr o33)), u13] rfl rfl ?_
              refine ur_ldA rfl rfl ?_
              cases o33 with
              | none =>
                refine ur_nulN rfl ?_
                refine ur_incV (fun z => [some (.inr (.inr (some 15))), some (.inl a1), some (.inl x10), some (.inl z), some (.inr (.inr none)), u13]) rfl rfl (fun _ => rfl) (fun x36 e37 => ?_)
                have t38 := ti_add e37 (by omega) (by omega)
                refine ur_go rfl ?_
                have z39 := any_r x36
                exact ih16 x10 x36 _ _ _ hO17 hu17 (by omega) (by omega)
              | some r35 =>
                refine ur_nulS rfl ?_
                have k40 := k34 _ rfl
                refine ur_ldI rfl rfl ?_
                refine ur_if1 rfl (fun c41 => ?_) (fun c41 => ?_)
                · have t42 := lt_to c41
                  refine ur_ldA rfl rfl ?_
                  obtain ⟨g59, f44, f45, f46, f47, f48, f49, f50, f51, f52, o56, f53, f54, f55, hc43, k57, k58⟩ := hO17.word k40.2
                  refine ur_inl rfl (rcv_of hc43) (Nat.le_of_ble_eq_true rfl) (Nat.le_of_ble_eq_true rfl) (sf_X10_rootWord hO17 g59 k40.2 (fun w60 hr61 => ?_))
                  obtain ⟨r62, rfl, k63⟩ := hr61
                  show uRun _ (uCall Mt _) _ 67 (_, [(.inr (.inr (some r62)))], _, _, _)
                  obtain ⟨g80, f65, f66, f67, f68, f69, f70, f71, f72, f73, o77, f74, f75, f76, hc64, k78, k79⟩ := hO17.word k63.2
                  refine ur_get rfl hc64 rfl ?_
                  refine ur_svIk [some (.inr (.inr (some 15))), some (.inl a1), some (.inl x10), some (.inl x11), some (.inr (.inr (some r35))), some (.inl f65)] rfl rfl ?_
                  refine ur_ldI rfl rfl ?_
                  refine ur_push rfl ?_
                  refine ur_push rfl ?_
                  refine ur_callv rfl rfl (Nat.le_of_ble_eq_true rfl) (Nat.le_of_ble_eq_true rfl) rfl (sp_within _ _ _ _ _) ?_
                  refine ur_eqB rfl (fun c83 => ?_) (fun c83 => ?_)
                  · have t84 := wi_noL c83 l_0 l_149
                    refine ur_incV (fun z => [some (.inr (.inr (some 15))), some (.inl a1), some (.inl x10), some (.inl z), some (.inr (.inr (some r35))), some (.inl f65)]) rfl rfl (fun _ => rfl) (fun x85 e86 => ?_)
                    have t87 := ti_add e86 (by omega) (by omega)
                    refine ur_go rfl ?_
                    have z88 := any_r x85
                    exact ih16 x10 x85 _ _ _ hO17 hu17 (by omega) (by omega)
                  · have t89 := wi_toL c83 l_0 l_149
                    refine ur_ldA rfl rfl ?_
                    refine ur_get rfl hc20 rfl ?_
                    refine ur_ldI rfl rfl ?_
                    obtain ⟨xs91, hc90, hn92, he93⟩ := hO17.boo (hO17.fix 22 (by decide) rfl)
                    refine ur_aldV rfl hc90 hn92 (by omega) (fun x94 hx95 => ?_)
                    refine ur_if1 rfl (fun c96 => ?_) (fun c96 => ?_)
                    · have t97 := eq_to c96
                      refine ur_ldA rfl rfl ?_
                      refine ur_get rfl hc20 rfl ?_
                      refine ur_ldI rfl rfl ?_
                      refine ur_push rfl ?_
                      refine ur_astV (W := []) (m := 150) rfl hO17 hc90 (by decide) hn92 (by omega) (any_r _) (Or.inl rfl) (fun h100 hO100 hu100 d98 hc99 => ?_)
                      refine ur_incV (fun z => [some (.inr (.inr (some 15))), some (.inl a1), some (.inl z), some (.inl x11), some (.inr (.inr (some r35))), some (.inl f65)]) rfl rfl (fun _ => rfl) (fun x101 e102 => ?_)
                      have z103 := any_r x10
                      refine ur_incV (fun z => [some (.inr (.inr (some 15))), some (.inl a1), some (.inl x101), some (.inl z), some (.inr (.inr (some r35))), some (.inl f65)]) rfl rfl (fun _ => rfl) (fun x104 e105 => ?_)
                      have t106 := ti_add e105 (by omega) (by omega)
                      refine ur_go rfl ?_
                      have z107 := any_r x104
                      exact ih16 x101 x104 _ _ _ hO100 (hu17.tr hu100) (by omega) (by omega)
                    · have t108 := eq_no c96
                      refine ur_go rfl ?_
                      refine ur_incV (fun z => [some (.inr (.inr (some 15))), some (.inl a1), some (.inl x10), some (.inl z), some (.inr (.inr (some r35))), some (.inl f65)]) rfl rfl (fun _ => rfl) (fun x109 e110 => ?_)
                      have t111 := ti_add e110 (by omega) (by omega)
                      refine ur_go rfl ?_
                      have z112 := any_r x109
                      exact ih16 x10 x109 _ _ _ hO17 hu17 (by omega) (by omega)
                · have t113 := lt_no c41
                  refine ur_ldA rfl rfl ?_
                  obtain ⟨g130, f115, f116, f117, f118, f119, f120, f121, f122, f123, o127, f124, f125, f126, hc114, k128, k129⟩ := hO17.word k40.2
                  refine ur_get rfl hc114 rfl ?_
                  refine ur_ldI rfl rfl ?_
                  have z131 := any_r f117
                  have z132 := any_r a1
                  refine ur_if2 rfl (fun c133 => ?_) (fun c133 => ?_)
                  · have t134 := eq_to c133
                    refine ur_ldA rfl rfl ?_
                    refine ur_inl rfl (rcv_of hc114) (Nat.le_of_ble_eq_true rfl) (Nat.le_of_ble_eq_true rfl) (sf_X10_rootWord hO17 g130 k40.2 (fun w135 hr136 => ?_))
                    obtain ⟨r137, rfl, k138⟩ := hr136
                    show uRun _ (uCall Mt _) _ 67 (_, [(.inr (.inr (some r137)))], _, _, _)
                    obtain ⟨g155, f140, f141, f142, f143, f144, f145, f146, f147, f148, o152, f149, f150, f151, hc139, k153, k154⟩ := hO17.word k138.2
                    refine ur_get rfl hc139 rfl ?_
                    refine ur_svIk [some (.inr (.inr (some 15))), some (.inl a1), some (.inl x10), some (.inl x11), some (.inr (.inr (some r35))), some (.inl f140)] rfl rfl ?_
                    refine ur_ldI rfl rfl ?_
                    refine ur_push rfl ?_
                    refine ur_push rfl ?_
                    refine ur_callv rfl rfl (Nat.le_of_ble_eq_true rfl) (Nat.le_of_ble_eq_true rfl) rfl (sp_within _ _ _ _ _) ?_
                    refine ur_eqB rfl (fun c158 => ?_) (fun c158 => ?_)
                    · have t159 := wi_noL c158 l_0 l_149
                      refine ur_incV (fun z => [some (.inr (.inr (some 15))), some (.inl a1), some (.inl x10), some (.inl z), some (.inr (.inr (some r35))), some (.inl f140)]) rfl rfl (fun _ => rfl) (fun x160 e161 => ?_)
                      have t162 := ti_add e161 (by omega) (by omega)
                      refine ur_go rfl ?_
                      have z163 := any_r x160
                      exact ih16 x10 x160 _ _ _ hO17 hu17 (by omega) (by omega)
                    · have t164 := wi_toL c158 l_0 l_149
                      refine ur_ldA rfl rfl ?_
                      refine ur_get rfl hc20 rfl ?_
                      refine ur_ldI rfl rfl ?_
                      obtain ⟨xs166, hc165, hn167, he168⟩ := hO17.boo (hO17.fix 22 (by decide) rfl)
                      refine ur_aldV rfl hc165 hn167 (by omega) (fun x169 hx170 => ?_)
                      refine ur_if1 rfl (fun c171 => ?_) (fun c171 => ?_)
                      · have t172 := eq_to c171
                        refine ur_ldA rfl rfl ?_
                        refine ur_get rfl hc20 rfl ?_
                        refine ur_ldI rfl rfl ?_
                        refine ur_push rfl ?_
                        refine ur_astV (W := []) (m := 150) rfl hO17 hc165 (by decide) hn167 (by omega) (any_r _) (Or.inl rfl) (fun h175 hO175 hu175 d173 hc174 => ?_)
                        refine ur_incV (fun z => [some (.inr (.inr (some 15))), some (.inl a1), some (.inl z), some (.inl x11), some (.inr (.inr (some r35))), some (.inl f140)]) rfl rfl (fun _ => rfl) (fun x176 e177 => ?_)
                        have z178 := any_r x10
                        refine ur_incV (fun z => [some (.inr (.inr (some 15))), some (.inl a1), some (.inl x176), some (.inl z), some (.inr (.inr (some r35))), some (.inl f140)]) rfl rfl (fun _ => rfl) (fun x179 e180 => ?_)
                        have t181 := ti_add e180 (by omega) (by omega)
                        refine ur_go rfl ?_
                        have z182 := any_r x179
                        exact ih16 x176 x179 _ _ _ hO175 (hu17.tr hu175) (by omega) (by omega)
                      · have t183 := eq_no c171
                        refine ur_go rfl ?_
                        refine ur_incV (fun z => [some (.inr (.inr (some 15))), some (.inl a1), some (.inl x10), some (.inl z), some (.inr (.inr (some r35))), some (.inl f140)]) rfl rfl (fun _ => rfl) (fun x184 e185 => ?_)
                        have t186 := ti_add e185 (by omega) (by omega)
                        refine ur_go rfl ?_
                        have z187 := any_r x184
                        exact ih16 x10 x184 _ _ _ hO17 hu17 (by omega) (by omega)
                  · have t188 := eq_no c133
                    refine ur_go rfl ?_
                    refine ur_incV (fun z => [some (.inr (.inr (some 15))), some (.inl a1), some (.inl x10), some (.inl z), some (.inr (.inr (some r35))), u13]) rfl rfl (fun _ => rfl) (fun x189 e190 => ?_)
                    have t191 := ti_add e190 (by omega) (by omega)
                    refine ur_go rfl ?_
                    have z192 := any_r x189
                    exact ih16 x10 x189 _ _ _ hO17 hu17 (by omega) (by omega)
        exact L14 _ 0 0 (none) (none) _ hO5 un.rf (by omega) (Nat.lt_succ_self _)
      · have t193 := le_no c8
        refine ur_ldA rfl rfl ?_
        obtain ⟨f195, f196, f197, f198, hc194, k199⟩ := ok_15 hO5
        refine ur_get rfl hc194 rfl ?_
        refine ur_ldI rfl rfl ?_
        refine ur_push rfl ?_
        obtain ⟨xs201, hc200, hn202, he203⟩ := hO5.boo (hO5.fix 22 (by decide) rfl)
        refine ur_astV (W := []) (m := 150) rfl hO5 hc200 (by decide) hn202 (by omega) (any_r _) (Or.inl rfl) (fun h206 hO206 hu206 d204 hc205 => ?_)
        refine ur_incV (fun z => [some (.inr (.inr (some 15))), some (.inl a1), some (.inl z), none, none, none]) rfl rfl (fun _ => rfl) (fun x207 e208 => ?_)
        have z209 := any_r x1
        have t210 := ti_add e208 (by omega) (by omega)
        refine ur_go rfl ?_
        have z211 := any_r x207
        exact ih4 x207 _ hO206 (hu5.tr hu206) (by omega) (by omega)
  exact L2 _ 0 _ hO0 un.rf (by omega) (Nat.lt_succ_self _)

set_option maxRecDepth 20000 in
set_option maxHeartbeats 4000000 in
theorem sf_X3_nodeOf {d kc ks : Nat} {h0 : aH} {Q : Option aV → aH → Prop} (hO0 : OK h0) (a1 : Int32) (a2 : Int32) (a3 : Int32) (a4 : Int32) (hQ : ∀ r, (∃ x, r = some (.inl x)) → Q r h0) : uCall Mt (d + 3) 29 [(.inr (.inr (some 52))), (.inl a1), (.inl a2), (.inl a3), (.inl a4)] h0 kc ks Q := by
  have l_m120 : ((-120) : Int32).toInt = -120 := by decide
  have l_m1 : ((-1) : Int32).toInt = -1 := by decide
  have l_0 : ((0) : Int32).toInt = 0 := by decide
  have l_1 : ((1) : Int32).toInt = 1 := by decide
  have l_120 : ((120) : Int32).toInt = 120 := by decide
  have l_360 : ((360) : Int32).toInt = 360 := by decide
  have l_720 : ((720) : Int32).toInt = 720 := by decide
  refine uc_ink [some (.inr (.inr (some 52))), some (.inl a1), some (.inl a2), some (.inl a3), some (.inl a4), none, none, none, none] mt_29 (Nat.le_of_ble_eq_true rfl) rfl ?_
  refine ur_ldA rfl rfl ?_
  obtain ⟨f2, hc1, k3⟩ := ok_52 hO0
  refine ur_get rfl hc1 rfl ?_
  refine ur_push rfl ?_
  obtain ⟨xs5, hc4, hn6, he7⟩ := hO0.int (hO0.fix 54 (by decide) rfl)
  refine ur_aldV rfl hc4 hn6 (by omega) (fun x8 hx9 => ?_)
  refine ur_ldI rfl rfl ?_
  refine ur_ldA rfl rfl ?_
  refine ur_get rfl hc1 rfl ?_
  refine ur_push rfl ?_
  obtain ⟨xs11, hc10, hn12, he13⟩ := hO0.int (hO0.fix 53 (by decide) rfl)
  refine ur_aldV rfl hc10 hn12 (by omega) (fun x14 hx15 => ?_)
  refine ur_ldI rfl rfl ?_
  refine ur_binV rfl (fun x16 e17 => ?_)
  have z18 := any_r x14
  have z19 := any_r a1
  refine ur_ldI rfl rfl ?_
  refine ur_inl rfl rfl (Nat.le_of_ble_eq_true rfl) (Nat.le_of_ble_eq_true rfl) (sf_X11_turned _ _ _ (fun w20 hr21 => ?_))
  obtain ⟨x22, rfl⟩ := hr21
  show uRun _ (uCall Mt _) _ 19 (_, [(.inl x22), (.inl x8)], _, _, _)
  refine ur_binV rfl (fun x23 e24 => ?_)
  have z25 := any_r x8
  have z26 := any_r x22
  refine ur_push rfl ?_
  refine ur_binV rfl (fun x27 e28 => ?_)
  have z29 := any_r x23
  refine ur_push rfl ?_
  refine ur_divV rfl (by decide) (fun x30 e31 => ?_)
  have z32 := any_r x27
  have t33 : 0 ≤ x27.toInt → x30.toInt = x27.toInt % 360 := fun q => ti_rem e31 l_360 (by decide) q
  refine ur_svIk [some (.inr (.inr (some 52))), some (.inl a1), some (.inl a2), some (.inl a3), some (.inl a4), some (.inl x30), none, none, none] rfl rfl ?_
  refine ur_push rfl ?_
  refine ur_svIk [some (.inr (.inr (some 52))), some (.inl a1), some (.inl a2), some (.inl a3), some (.inl a4), some (.inl x30), some (.inl 0), none, none] rfl rfl ?_
  have L37 : ∀ (m38 : Nat) (x34 : Int32) (u35 : Option aV) (u36 : Option aV) , ((0 ≤ x34.toInt ∧ x34.toInt ≤ 2147483647)) → ((2147483648 - x34.toInt).toNat) < m38 → uRun oX3_nodeOf (uCall Mt (d + 2)) Q 33 ([some (.inr (.inr (some 52))), some (.inl a1), some (.inl a2), some (.inl a3), some (.inl a4), some (.inl x30), some (.inl x34), u35, u36], [], h0, kc, ks) := by
    intro m38
    induction m38 with
    | zero => intro x34 u35 u36 iv40 mm41; omega
    | succ m38 ih39 =>
      intro x34 u35 u36 iv40 mm41
      refine ur_ldI rfl rfl ?_
      refine ur_ldA rfl rfl ?_
      refine ur_get rfl hc1 rfl ?_
      have z42 := any_r x34
      have z43 := any_r f2
      refine ur_if2 rfl (fun c44 => ?_) (fun c44 => ?_)
      · have t45 := le_to c44
        refine ur_ldI rfl rfl ?_
        exact ur_ret rfl rfl (hQ _ ⟨_, rfl⟩ )
      · have t46 := le_no c44
        refine ur_ldA rfl rfl ?_
        refine ur_get rfl hc1 rfl ?_
        refine ur_ldI rfl rfl ?_
        refine ur_aldV rfl hc10 hn12 (by omega) (fun x47 hx48 => ?_)
        refine ur_ldI rfl rfl ?_
        refine ur_binV rfl (fun x49 e50 => ?_)
        have z51 := any_r x47
        refine ur_svIk [some (.inr (.inr (some 52))), some (.inl a1), some (.inl a2), some (.inl a3), some (.inl a4), some (.inl x30), some (.inl x34), some (.inl x49), u36] rfl rfl ?_
        refine ur_ldI rfl rfl ?_
        refine ur_callv rfl rfl (Nat.le_of_ble_eq_true rfl) (Nat.le_of_ble_eq_true rfl) rfl (sp_isFar _ _) ?_
        refine ur_eqB rfl (fun c54 => ?_) (fun c54 => ?_)
        · have t55 := wi_toL (bnot_t c54) l_m120 l_120
          refine ur_ldI rfl rfl ?_
          refine ur_ldI rfl rfl ?_
          refine ur_ldI rfl rfl ?_
          refine ur_ldI rfl rfl ?_
          refine ur_inl rfl rfl (Nat.le_of_ble_eq_true rfl) (Nat.le_of_ble_eq_true rfl) (sf_X11_turned _ _ _ (fun w56 hr57 => ?_))
          obtain ⟨x58, rfl⟩ := hr57
          show uRun _ (uCall Mt _) _ 72 (_, [(.inl x58), (.inl x30)], _, _, _)
          refine ur_binV rfl (fun x59 e60 => ?_)
          have z61 := any_r x30
          have z62 := any_r x58
          refine ur_push rfl ?_
          refine ur_binV rfl (fun x63 e64 => ?_)
          have z65 := any_r x59
          refine ur_push rfl ?_
          refine ur_divV rfl (by decide) (fun x66 e67 => ?_)
          have z68 := any_r x63
          have t69 : 0 ≤ x63.toInt → x66.toInt = x63.toInt % 360 := fun q => ti_rem e67 l_360 (by decide) q
          refine ur_svIk [some (.inr (.inr (some 52))), some (.inl a1), some (.inl a2), some (.inl a3), some (.inl a4), some (.inl x30), some (.inl x34), some (.inl x49), some (.inl x66)] rfl rfl ?_
          refine ur_ldI rfl rfl ?_
          refine ur_if1 rfl (fun c70 => ?_) (fun c70 => ?_)
          · have t71 := le_to c70
            refine ur_incV (fun z => [some (.inr (.inr (some 52))), some (.inl a1), some (.inl a2), some (.inl a3), some (.inl a4), some (.inl x30), some (.inl z), some (.inl x49), some (.inl x66)]) rfl rfl (fun _ => rfl) (fun x72 e73 => ?_)
            have t74 := ti_add e73 (by omega) (by omega)
            refine ur_go rfl ?_
            have z75 := any_r x72
            exact ih39 x72 _ _ (by omega) (by omega)
          · have t76 := le_no c70
            refine ur_ldI rfl rfl ?_
            refine ur_ldA rfl rfl ?_
            refine ur_get rfl hc1 rfl ?_
            refine ur_ldI rfl rfl ?_
            refine ur_aldV rfl hc4 hn6 (by omega) (fun x77 hx78 => ?_)
            refine ur_inl rfl rfl (Nat.le_of_ble_eq_true rfl) (Nat.le_of_ble_eq_true rfl) (sf_X11_apart _ _ (fun w79 hr80 => ?_))
            obtain ⟨x81, rfl⟩ := hr80
            show uRun _ (uCall Mt _) _ 100 (_, [(.inl x81)], _, _, _)
            refine ur_ldI rfl rfl ?_
            have z82 := any_r x81
            have z83 := any_r a4
            refine ur_if2 rfl (fun c84 => ?_) (fun c84 => ?_)
            · have t85 := le_to c84
              refine ur_incV (fun z => [some (.inr (.inr (some 52))), some (.inl a1), some (.inl a2), some (.inl a3), some (.inl a4), some (.inl x30), some (.inl z), some (.inl x49), some (.inl x66)]) rfl rfl (fun _ => rfl) (fun x86 e87 => ?_)
              have t88 := ti_add e87 (by omega) (by omega)
              refine ur_go rfl ?_
              have z89 := any_r x86
              exact ih39 x86 _ _ (by omega) (by omega)
            · have t90 := le_no c84
              refine ur_push rfl ?_
              exact ur_ret rfl rfl (hQ _ ⟨_, rfl⟩ )
        · have t91 := wi_noL (bnot_f c54) l_m120 l_120
          refine ur_push rfl ?_
          exact ur_ret rfl rfl (hQ _ ⟨_, rfl⟩ )
  exact L37 _ 0 (none) (none) (by omega) (Nat.lt_succ_self _)

set_option maxRecDepth 20000 in
set_option maxHeartbeats 4000000 in
theorem sf_X3_findPaths {d kc ks : Nat} {h0 : aH} {Q : Option aV → aH → Prop} (hO0 : OK h0) (a1 : Int32) (b1 : 0 ≤ a1.toInt ∧ a1.toInt ≤ 999999) (a2 : Int32) (a3 : Int32) (hQ : ∀ r, (∃ x, r = some (.inl x)) → Q r h0) : uCall Mt (d + 4) 28 [(.inr (.inr (some 52))), (.inl a1), (.inl a2), (.inl a3)] h0 kc ks Q := by
  have l_m2 : ((-2) : Int32).toInt = -2 := by decide
  have l_m1 : ((-1) : Int32).toInt = -1 := by decide
  have l_0 : ((0) : Int32).toInt = 0 := by decide
  have l_1 : ((1) : Int32).toInt = 1 := by decide
  have l_2 : ((2) : Int32).toInt = 2 := by decide
  have l_3 : ((3) : Int32).toInt = 3 := by decide
  have l_4 : ((4) : Int32).toInt = 4 := by decide
  have l_5 : ((5) : Int32).toInt = 5 := by decide
  have l_10 : ((10) : Int32).toInt = 10 := by decide
  have l_60 : ((60) : Int32).toInt = 60 := by decide
  have l_95 : ((95) : Int32).toInt = 95 := by decide
  have l_999999 : ((999999) : Int32).toInt = 999999 := by decide
  refine uc_ink [some (.inr (.inr (some 52))), some (.inl a1), some (.inl a2), some (.inl a3), none, none, none, none, none, none] mt_28 (Nat.le_of_ble_eq_true rfl) rfl ?_
  refine ur_push rfl ?_
  refine ur_svIk [some (.inr (.inr (some 52))), some (.inl a1), some (.inl a2), some (.inl a3), some (.inl 0), none, none, none, none, none] rfl rfl ?_
  refine ur_ldI rfl rfl ?_
  refine ur_push rfl ?_
  refine ur_binV rfl (fun x1 e2 => ?_)
  have z3 := any_r a1
  have t4 := ti_add e2 (by omega) (by omega)
  refine ur_push rfl ?_
  refine ur_minV rfl (by show ¬ 9 ≤ 2; decide) (fun x5 t6 e7 => ?_)
  refine ur_svIk [some (.inr (.inr (some 52))), some (.inl a1), some (.inl a2), some (.inl a3), some (.inl 0), some (.inl x5), none, none, none, none] rfl rfl ?_
  refine ur_ldI rfl rfl ?_
  refine ur_push rfl ?_
  refine ur_binV rfl (fun x8 e9 => ?_)
  have t10 := ti_sub e9 (by omega) (by omega)
  refine ur_push rfl ?_
  refine ur_maxV rfl (by show ¬ 9 ≤ 2; decide) (fun x11 t12 e13 => ?_)
  refine ur_svIk [some (.inr (.inr (some 52))), some (.inl a1), some (.inl a2), some (.inl a3), some (.inl 0), some (.inl x5), some (.inl x11), none, none, none] rfl rfl ?_
  have L19 : ∀ (m20 : Nat) (x14 : Int32) (x15 : Int32) (u16 : Option aV) (u17 : Option aV) (u18 : Option aV) , ((0 ≤ x15.toInt ∧ x15.toInt ≤ 2147483647)) → ((2147483648 - x15.toInt).toNat) < m20 → uRun oX3_findPaths (uCall Mt (d + 3)) Q 24 ([some (.inr (.inr (some 52))), some (.inl a1), some (.inl a2), some (.inl a3), some (.inl x14), some (.inl x5), some (.inl x15), u16, u17, u18], [], h0, kc, ks) := by
    intro m20
    induction m20 with
    | zero => intro x14 x15 u16 u17 u18 iv22 mm23; omega
    | succ m20 ih21 =>
      intro x14 x15 u16 u17 u18 iv22 mm23
      refine ur_ldI rfl rfl ?_
      refine ur_ldI rfl rfl ?_
      have z24 := any_r x15
      have z25 := any_r x5
      refine ur_if2 rfl (fun c26 => ?_) (fun c26 => ?_)
      · have t27 := lt_to c26
        refine ur_ldI rfl rfl ?_
        refine ur_if1 rfl (fun c28 => ?_) (fun c28 => ?_)
        · have t29 := ne_to c28
          refine ur_push rfl ?_
          exact ur_ret rfl rfl (hQ _ ⟨_, rfl⟩ )
        · have t30 := ne_no c28
          refine ur_ldI rfl rfl ?_
          refine ur_go rfl ?_
          exact ur_ret rfl rfl (hQ _ ⟨_, rfl⟩ )
      · have t31 := lt_no c26
        refine ur_push rfl ?_
        refine ur_svIk [some (.inr (.inr (some 52))), some (.inl a1), some (.inl a2), some (.inl a3), some (.inl x14), some (.inl x5), some (.inl x15), some (.inl 5), u17, u18] rfl rfl ?_
        have L36 : ∀ (m37 : Nat) (x32 : Int32) (x33 : Int32) (u34 : Option aV) (u35 : Option aV) , ((5 ≤ x33.toInt ∧ x33.toInt ≤ 2147483647)) → ((2147483648 - x33.toInt).toNat) < m37 → uRun oX3_findPaths (uCall Mt (d + 3)) Q 34 ([some (.inr (.inr (some 52))), some (.inl a1), some (.inl a2), some (.inl a3), some (.inl x32), some (.inl x5), some (.inl x15), some (.inl x33), u34, u35], [], h0, kc, ks) := by
          intro m37
          induction m37 with
          | zero => intro x32 x33 u34 u35 iv39 mm40; omega
          | succ m37 ih38 =>
            intro x32 x33 u34 u35 iv39 mm40
            refine ur_ldI rfl rfl ?_
            refine ur_push rfl ?_
            refine ur_if2 rfl (fun c41 => ?_) (fun c41 => ?_)
            · have t42 := lt_to c41
              refine ur_incV (fun z => [some (.inr (.inr (some 52))), some (.inl a1), some (.inl a2), some (.inl a3), some (.inl x32), some (.inl x5), some (.inl z), some (.inl x33), u34, u35]) rfl rfl (fun _ => rfl) (fun x43 e44 => ?_)
              have t45 := ti_add e44 (by omega) (by omega)
              refine ur_go rfl ?_
              have z46 := any_r x43
              exact ih21 x32 x43 _ _ _ (by omega) (by omega)
            · have t47 := lt_no c41
              refine ur_push rfl ?_
              refine ur_svIk [some (.inr (.inr (some 52))), some (.inl a1), some (.inl a2), some (.inl a3), some (.inl x32), some (.inl x5), some (.inl x15), some (.inl x33), some (.inl 1), u35] rfl rfl ?_
              have L51 : ∀ (m52 : Nat) (x48 : Int32) (x49 : Int32) (u50 : Option aV) , ((-2147483648 ≤ x49.toInt ∧ x49.toInt ≤ 1)) → ((x49.toInt + 2147483649).toNat) < m52 → uRun oX3_findPaths (uCall Mt (d + 3)) Q 44 ([some (.inr (.inr (some 52))), some (.inl a1), some (.inl a2), some (.inl a3), some (.inl x48), some (.inl x5), some (.inl x15), some (.inl x33), some (.inl x49), u50], [], h0, kc, ks) := by
                intro m52
                induction m52 with
                | zero => intro x48 x49 u50 iv54 mm55; omega
                | succ m52 ih53 =>
                  intro x48 x49 u50 iv54 mm55
                  refine ur_ldI rfl rfl ?_
                  refine ur_push rfl ?_
                  refine ur_if2 rfl (fun c56 => ?_) (fun c56 => ?_)
                  · have t57 := lt_to c56
                    refine ur_incV (fun z => [some (.inr (.inr (some 52))), some (.inl a1), some (.inl a2), some (.inl a3), some (.inl x48), some (.inl x5), some (.inl x15), some (.inl z), some (.inl x49), u50]) rfl rfl (fun _ => rfl) (fun x58 e59 => ?_)
                    have z60 := any_r x33
                    have t61 := ti_add e59 (by omega) (by omega)
                    refine ur_go rfl ?_
                    have z62 := any_r x58
                    exact ih38 x48 x58 _ _ (by omega) (by omega)
                  · have t63 := lt_no c56
                    refine ur_ldA rfl rfl ?_
                    refine ur_ldI rfl rfl ?_
                    refine ur_ldI rfl rfl ?_
                    refine ur_ldI rfl rfl ?_
                    refine ur_ldI rfl rfl ?_
                    obtain ⟨f65, hc64, k66⟩ := ok_52 hO0
                    refine ur_inl rfl (rcv_of hc64) (Nat.le_of_ble_eq_true rfl) (Nat.le_of_ble_eq_true rfl) (sf_X3_nodeOf hO0 _ _ _ _ (fun w67 hr68 => ?_))
                    obtain ⟨x69, rfl⟩ := hr68
                    show uRun _ (uCall Mt _) _ 61 (_, [(.inl x69)], _, _, _)
                    refine ur_svIk [some (.inr (.inr (some 52))), some (.inl a1), some (.inl a2), some (.inl a3), some (.inl x48), some (.inl x5), some (.inl x15), some (.inl x33), some (.inl x49), some (.inl x69)] rfl rfl ?_
                    refine ur_ldI rfl rfl ?_
                    refine ur_push rfl ?_
                    refine ur_if2 rfl (fun c70 => ?_) (fun c70 => ?_)
                    · have t71 := ne_to c70
                      refine ur_ldI rfl rfl ?_
                      refine ur_push rfl ?_
                      refine ur_if2 rfl (fun c72 => ?_) (fun c72 => ?_)
                      · have t73 := ne_to c72
                        refine ur_ldI rfl rfl ?_
                        refine ur_push rfl ?_
                        refine ur_if2 rfl (fun c74 => ?_) (fun c74 => ?_)
                        · have t75 := ne_to c74
                          refine ur_ldI rfl rfl ?_
                          refine ur_push rfl ?_
                          refine ur_if2 rfl (fun c76 => ?_) (fun c76 => ?_)
                          · have t77 := ne_to c76
                            refine ur_ldI rfl rfl ?_
                            refine ur_push rfl ?_
                            refine ur_if2 rfl (fun c78 => ?_) (fun c78 => ?_)
                            · have t79 := ne_to c78
                              refine ur_incV (fun z => [some (.inr (.inr (some 52))), some (.inl a1), some (.inl a2), some (.inl a3), some (.inl z), some (.inl x5), some (.inl x15), some (.inl x33), some (.inl x49), some (.inl x69)]) rfl rfl (fun _ => rfl) (fun x80 e81 => ?_)
                              have z82 := any_r x48
                              refine ur_incV (fun z => [some (.inr (.inr (some 52))), some (.inl a1), some (.inl a2), some (.inl a3), some (.inl x80), some (.inl x5), some (.inl x15), some (.inl x33), some (.inl z), some (.inl x69)]) rfl rfl (fun _ => rfl) (fun x83 e84 => ?_)
                              have z85 := any_r x49
                              have t86 := ti_add e84 (by omega) (by omega)
                              refine ur_go rfl ?_
                              have z87 := any_r x83
                              exact ih53 x80 x83 _ (by omega) (by omega)
                            · have t88 := ne_no c78
                              refine ur_ldI rfl rfl ?_
                              exact ur_ret rfl rfl (hQ _ ⟨_, rfl⟩ )
                          · have t89 := ne_no c76
                            refine ur_ldI rfl rfl ?_
                            exact ur_ret rfl rfl (hQ _ ⟨_, rfl⟩ )
                        · have t90 := ne_no c74
                          refine ur_ldI rfl rfl ?_
                          exact ur_ret rfl rfl (hQ _ ⟨_, rfl⟩ )
                      · have t91 := ne_no c72
                        refine ur_ldI rfl rfl ?_
                        exact ur_ret rfl rfl (hQ _ ⟨_, rfl⟩ )
                    · have t92 := ne_no c70
                      refine ur_go rfl ?_
                      refine ur_incV (fun z => [some (.inr (.inr (some 52))), some (.inl a1), some (.inl a2), some (.inl a3), some (.inl x48), some (.inl x5), some (.inl x15), some (.inl x33), some (.inl z), some (.inl x69)]) rfl rfl (fun _ => rfl) (fun x93 e94 => ?_)
                      have z95 := any_r x49
                      have t96 := ti_add e94 (by omega) (by omega)
                      refine ur_go rfl ?_
                      have z97 := any_r x93
                      exact ih53 x48 x93 _ (by omega) (by omega)
              exact L51 _ x32 1 (u35) (by omega) (Nat.lt_succ_self _)
        exact L36 _ x14 5 (u17) (u18) (by omega) (Nat.lt_succ_self _)
  have z98 := any_r x11
  exact L19 _ 0 x11 (none) (none) (none) (by omega) (Nat.lt_succ_self _)

set_option maxRecDepth 20000 in
set_option maxHeartbeats 4000000 in
theorem sf_X4_isEmpty {d kc ks : Nat} {h0 : aH} {Q : Option aV → aH → Prop} (hO0 : OK h0) (a1 : Int32) (hQ : ∀ r, (∃ q, r = some (.inl (bi q))) → Q r h0) : uCall Mt (d + 3) 32 [(.inr (.inr (some 57))), (.inl a1)] h0 kc ks Q := by
  have l_0 : ((0) : Int32).toInt = 0 := by decide
  have l_1 : ((1) : Int32).toInt = 1 := by decide
  have l_5 : ((5) : Int32).toInt = 5 := by decide
  refine uc_ink [some (.inr (.inr (some 57))), some (.inl a1)] mt_32 (Nat.le_of_ble_eq_true rfl) rfl ?_
  refine ur_ldA rfl rfl ?_
  refine ur_ldI rfl rfl ?_
  obtain ⟨hc1, k2⟩ := ok_57 hO0
  refine ur_callv rfl rfl (Nat.le_of_ble_eq_true rfl) (Nat.le_of_ble_eq_true rfl) (rcv_of hc1) (sp_page _ _) ?_
  refine ur_eqB rfl (fun c5 => ?_) (fun c5 => ?_)
  · have t6 := wi_noL c5 l_0 l_5
    refine ur_push rfl ?_
    refine ur_go rfl ?_
    exact ur_ret rfl rfl (hQ _ ⟨true, rfl⟩ )
  · have t7 := wi_toL c5 l_0 l_5
    refine ur_ldA rfl rfl ?_
    refine ur_get rfl hc1 rfl ?_
    refine ur_ldI rfl rfl ?_
    obtain ⟨xs9, hc8, hn10, he11⟩ := hO0.int (hO0.fix 58 (by decide) rfl)
    refine ur_aldV rfl hc8 hn10 (by omega) (fun x12 hx13 => ?_)
    refine ur_if1 rfl (fun c14 => ?_) (fun c14 => ?_)
    · have t15 := ne_to c14
      refine ur_push rfl ?_
      exact ur_ret rfl rfl (hQ _ ⟨false, rfl⟩ )
    · have t16 := ne_no c14
      refine ur_push rfl ?_
      refine ur_go rfl ?_
      exact ur_ret rfl rfl (hQ _ ⟨true, rfl⟩ )

set_option maxRecDepth 20000 in
set_option maxHeartbeats 4000000 in
theorem sf_X4_isRow {d kc ks : Nat} {h0 : aH} {Q : Option aV → aH → Prop} (hO0 : OK h0) (a1 : Int32) (hQ : ∀ r, (∃ q, r = some (.inl (bi q)) ∧ (q = true → 0 ≤ a1.toInt ∧ a1.toInt ≤ 5)) → Q r h0) : uCall Mt (d + 3) 33 [(.inr (.inr (some 57))), (.inl a1)] h0 kc ks Q := by
  have l_0 : ((0) : Int32).toInt = 0 := by decide
  have l_1 : ((1) : Int32).toInt = 1 := by decide
  have l_2 : ((2) : Int32).toInt = 2 := by decide
  have l_5 : ((5) : Int32).toInt = 5 := by decide
  refine uc_ink [some (.inr (.inr (some 57))), some (.inl a1)] mt_33 (Nat.le_of_ble_eq_true rfl) rfl ?_
  refine ur_ldA rfl rfl ?_
  refine ur_ldI rfl rfl ?_
  obtain ⟨hc1, k2⟩ := ok_57 hO0
  refine ur_callv rfl rfl (Nat.le_of_ble_eq_true rfl) (Nat.le_of_ble_eq_true rfl) (rcv_of hc1) (sp_page _ _) ?_
  refine ur_eqB rfl (fun c5 => ?_) (fun c5 => ?_)
  · have t6 := wi_noL c5 l_0 l_5
    refine ur_push rfl ?_
    exact ur_ret rfl rfl (hQ _ ⟨false, rfl, fun e => absurd e (by decide)⟩ )
  · have t7 := wi_toL c5 l_0 l_5
    refine ur_ldA rfl rfl ?_
    refine ur_get rfl hc1 rfl ?_
    refine ur_ldI rfl rfl ?_
    obtain ⟨xs9, hc8, hn10, he11⟩ := hO0.int (hO0.fix 58 (by decide) rfl)
    refine ur_aldV rfl hc8 hn10 (by omega) (fun x12 hx13 => ?_)
    refine ur_push rfl ?_
    refine ur_if2 rfl (fun c14 => ?_) (fun c14 => ?_)
    · have t15 := ne_to c14
      refine ur_push rfl ?_
      exact ur_ret rfl rfl (hQ _ ⟨false, rfl, fun e => absurd e (by decide)⟩ )
    · have t16 := ne_no c14
      refine ur_push rfl ?_
      refine ur_go rfl ?_
      exact ur_ret rfl rfl (hQ _ ⟨true, rfl, fun _ => by omega⟩ )

set_option maxRecDepth 20000 in
set_option maxHeartbeats 4000000 in
theorem sf_X4_wordOn {d kc ks : Nat} {h0 : aH} {Q : Option aV → aH → Prop} (hO0 : OK h0) (a1 : Int32) (hQ : ∀ r, (∃ x, r = some (.inl x)) → Q r h0) : uCall Mt (d + 3) 38 [(.inr (.inr (some 57))), (.inl a1)] h0 kc ks Q := by
  have l_m1 : ((-1) : Int32).toInt = -1 := by decide
  have l_0 : ((0) : Int32).toInt = 0 := by decide
  have l_1 : ((1) : Int32).toInt = 1 := by decide
  have l_5 : ((5) : Int32).toInt = 5 := by decide
  refine uc_ink [some (.inr (.inr (some 57))), some (.inl a1)] mt_38 (Nat.le_of_ble_eq_true rfl) rfl ?_
  refine ur_ldA rfl rfl ?_
  refine ur_ldI rfl rfl ?_
  obtain ⟨hc1, k2⟩ := ok_57 hO0
  refine ur_callv rfl rfl (Nat.le_of_ble_eq_true rfl) (Nat.le_of_ble_eq_true rfl) (rcv_of hc1) (sp_page _ _) ?_
  refine ur_eqB rfl (fun c5 => ?_) (fun c5 => ?_)
  · have t6 := wi_noL c5 l_0 l_5
    refine ur_push rfl ?_
    exact ur_ret rfl rfl (hQ _ ⟨_, rfl⟩ )
  · have t7 := wi_toL c5 l_0 l_5
    refine ur_ldA rfl rfl ?_
    refine ur_get rfl hc1 rfl ?_
    refine ur_ldI rfl rfl ?_
    obtain ⟨xs9, hc8, hn10, he11⟩ := hO0.int (hO0.fix 58 (by decide) rfl)
    refine ur_aldV rfl hc8 hn10 (by omega) (fun x12 hx13 => ?_)
    refine ur_push rfl ?_
    refine ur_if2 rfl (fun c14 => ?_) (fun c14 => ?_)
    · have t15 := ne_to c14
      refine ur_push rfl ?_
      exact ur_ret rfl rfl (hQ _ ⟨_, rfl⟩ )
    · have t16 := ne_no c14
      refine ur_ldA rfl rfl ?_
      refine ur_get rfl hc1 rfl ?_
      refine ur_ldI rfl rfl ?_
      obtain ⟨xs18, hc17, hn19, he20⟩ := hO0.int (hO0.fix 59 (by decide) rfl)
      refine ur_aldV rfl hc17 hn19 (by omega) (fun x21 hx22 => ?_)
      refine ur_go rfl ?_
      exact ur_ret rfl rfl (hQ _ ⟨_, rfl⟩ )

set_option maxRecDepth 20000 in
set_option maxHeartbeats 4000000 in
theorem sf_X5_forgetSights {d kc ks : Nat} {h0 : aH} {Q : Option aV → aH → Prop} (hO0 : OK h0)  (hQ : ∀ r h', (r = none) → OK h' → un [1804] h0 h' → Q r h') : uCall Mt (d + 1) 48 [(.inr (.inr (some 8)))] h0 kc ks Q := by
  have l_1 : ((1) : Int32).toInt = 1 := by decide
  refine uc_ink [some (.inr (.inr (some 8)))] mt_48 (Nat.le_of_ble_eq_true rfl) rfl ?_
  refine ur_ldA rfl rfl ?_
  refine ur_dup rfl rfl ?_
  obtain ⟨f2, hc1, k3⟩ := ok_8 hO0
  refine ur_get rfl hc1 rfl ?_
  refine ur_push rfl ?_
  refine ur_binV rfl (fun x4 e5 => ?_)
  have z6 := any_r f2
  refine ur_putV (W := [1804]) (fs' := [(.inr (.inr (some 9))), (.inr (.inr (some 11))), (.inr (.inr (some 13))), (.inr (.inr (some 14))), (.inl x4)]) rfl hO0 hc1 (Nat.le_of_ble_eq_true rfl) rfl rfl ⟨rfl, _, rfl, trivial⟩ rfl (Or.inr (by show 1000 + 100 * wid 8 (105, 5) + 4 ∈ _; rw [(wid_f (by decide))]; decide)) (fun h8 hO8 hu8 d7 hc9 => ?_)
  exact ur_ret0 rfl (hQ _ _ rfl hO8 hu8)

set_option maxRecDepth 20000 in
set_option maxHeartbeats 4000000 in
theorem sf_X5_offLodge {d kc ks : Nat} {h0 : aH} {Q : Option aV → aH → Prop} (a0 : Int32) (a1 : Int32) (hQ : ∀ r, (∃ x, r = some (.inl x)) → Q r h0) : uCall Mt (d + 1) 56 [(.inl a0), (.inl a1)] h0 kc ks Q := by
  have l_0 : ((0) : Int32).toInt = 0 := by decide
  have l_1 : ((1) : Int32).toInt = 1 := by decide
  have l_15 : ((15) : Int32).toInt = 15 := by decide
  have l_360 : ((360) : Int32).toInt = 360 := by decide
  refine uc_ink [some (.inl a0), some (.inl a1), none, none] mt_56 (Nat.le_of_ble_eq_true rfl) rfl ?_
  refine ur_ldI rfl rfl ?_
  refine ur_push rfl ?_
  refine ur_binV rfl (fun x1 e2 => ?_)
  have z3 := any_r a1
  refine ur_svIk [some (.inl a0), some (.inl a1), some (.inl x1), none] rfl rfl ?_
  refine ur_ldI rfl rfl ?_
  refine ur_ldI rfl rfl ?_
  refine ur_binV rfl (fun x4 e5 => ?_)
  have z6 := any_r a0
  have z7 := any_r x1
  refine ur_push rfl ?_
  refine ur_binV rfl (fun x8 e9 => ?_)
  have z10 := any_r x4
  refine ur_push rfl ?_
  refine ur_divV rfl (by decide) (fun x11 e12 => ?_)
  have z13 := any_r x8
  have t14 : 0 ≤ x8.toInt → x11.toInt = x8.toInt % 360 := fun q => ti_rem e12 l_360 (by decide) q
  refine ur_svIk [some (.inl a0), some (.inl a1), some (.inl x1), some (.inl x11)] rfl rfl ?_
  refine ur_ldI rfl rfl ?_
  refine ur_push rfl ?_
  refine ur_if2 rfl (fun c15 => ?_) (fun c15 => ?_)
  · have t16 := le_to c15
    refine ur_ldI rfl rfl ?_
    refine ur_push rfl ?_
    refine ur_binV rfl (fun x17 e18 => ?_)
    have z19 := any_r x11
    have t20 := ti_sub e18 (by omega) (by omega)
    refine ur_push rfl ?_
    refine ur_binV rfl (fun x21 e22 => ?_)
    have z23 := any_r x17
    have t24 := ti_add e22 (by omega) (by omega)
    refine ur_push rfl ?_
    refine ur_ldI rfl rfl ?_
    refine ur_binV rfl (fun x25 e26 => ?_)
    have t27 := ti_sub e26 (by omega) (by omega)
    refine ur_minV rfl (by show ¬ 9 ≤ 2; decide) (fun x28 t29 e30 => ?_)
    exact ur_ret rfl rfl (hQ _ ⟨_, rfl⟩ )
  · have t31 := le_no c15
    refine ur_push rfl ?_
    exact ur_ret rfl rfl (hQ _ ⟨_, rfl⟩ )

set_option maxRecDepth 20000 in
set_option maxHeartbeats 4000000 in
theorem sf_X5_toldBy {d kc ks : Nat} {h0 : aH} {Q : Option aV → aH → Prop} (hO0 : OK h0) {a1 : Nat} (t1 : tg h0 a1 = (109, 2)) {a2 : Nat} (g2 : 114 ≤ a2) (t2 : tg h0 a2 = (102, 14)) (a3 : Int32) (a4 : Int32) (a5 : Int32) (hQ : ∀ r h', (∃ x, r = some (.inl x)) → OK h' → un [] h0 h' → Q r h') : uCall Mt (d + 3) 50 [(.inr (.inr (some 8))), (.inr (.inr (some a1))), (.inr (.inr (some a2))), (.inl a3), (.inl a4), (.inl a5)] h0 kc ks Q := by
  have l_0 : ((0) : Int32).toInt = 0 := by decide
  have l_1 : ((1) : Int32).toInt = 1 := by decide
  have l_2 : ((2) : Int32).toInt = 2 := by decide
  have l_3 : ((3) : Int32).toInt = 3 := by decide
  have l_4 : ((4) : Int32).toInt = 4 := by decide
  have l_5 : ((5) : Int32).toInt = 5 := by decide
  have l_6 : ((6) : Int32).toInt = 6 := by decide
  have l_30 : ((30) : Int32).toInt = 30 := by decide
  have l_360 : ((360) : Int32).toInt = 360 := by decide
  refine uc_ink [some (.inr (.inr (some 8))), some (.inr (.inr (some a1))), some (.inr (.inr (some a2))), some (.inl a3), some (.inl a4), some (.inl a5), none] mt_50 (Nat.le_of_ble_eq_true rfl) rfl ?_
  refine ur_ldA rfl rfl ?_
  refine ur_ldI rfl rfl ?_
  obtain ⟨g21, f2, f3, f4, f5, f6, f7, f8, f9, f10, f11, q12, q13, o14, q15, hc1, k16, k17, k18, k19, k20⟩ := hO0.comet t2
  refine ur_inl rfl (rcv_of hc1) (Nat.le_of_ble_eq_true rfl) (Nat.le_of_ble_eq_true rfl) (sf_X2_degreeAt hO0 g21 t2 _ (fun w22 hr23 => ?_))
  obtain ⟨x24, rfl⟩ := hr23
  show uRun _ (uCall Mt _) _ 6 (_, [(.inl x24)], _, _, _)
  refine ur_svIk [some (.inr (.inr (some 8))), some (.inr (.inr (some a1))), some (.inr (.inr (some a2))), some (.inl a3), some (.inl a4), some (.inl a5), some (.inl x24)] rfl rfl ?_
  refine ur_ldA rfl rfl ?_
  obtain ⟨f26, hc25, k27⟩ := ok_8 hO0
  refine ur_get rfl hc25 rfl ?_
  refine ur_push rfl ?_
  refine ur_ldI rfl rfl ?_
  refine ur_ldI rfl rfl ?_
  refine ur_push rfl ?_
  refine ur_divV rfl (by decide) (fun x28 e29 => ?_)
  have z30 := any_r a5
  have t31 : 0 ≤ a5.toInt → x28.toInt = a5.toInt % 360 := fun q => ti_rem e29 l_360 (by decide) q
  refine ur_inl rfl rfl (Nat.le_of_ble_eq_true rfl) (Nat.le_of_ble_eq_true rfl) (sf_X11_apart _ _ (fun w32 hr33 => ?_))
  obtain ⟨x34, rfl⟩ := hr33
  show uRun _ (uCall Mt _) _ 24 (_, [(.inl x34), (.inl 0), (.inr (.inr (some 13)))], _, _, _)
  obtain ⟨xs36, hc35, hn37, he38⟩ := hO0.int (hO0.fix 13 (by decide) rfl)
  refine ur_astV (W := []) (m := 10) rfl hO0 hc35 (by decide) hn37 (by omega) (any_r _) (Or.inl rfl) (fun h41 hO41 hu41 d39 hc40 => ?_)
  refine ur_ldA rfl rfl ?_
  refine ur_get rfl ((d39 _ (by decide)).trans hc25) rfl ?_
  refine ur_push rfl ?_
  refine ur_ldA rfl rfl ?_
  refine ur_ldI rfl rfl ?_
  refine ur_inl rfl (rcv_of ((d39 _ (ne_tg (hu41.tm t2 (by decide)) (hO41.fix 13 (by decide) rfl) (by decide))).trans hc1)) (Nat.le_of_ble_eq_true rfl) (Nat.le_of_ble_eq_true rfl) (sf_X2_distanceAt hO41 g21 (hu41.tm t2 (by decide)) _ (fun w42 hr43 => ?_))
  obtain ⟨x44, rfl⟩ := hr43
  show uRun _ (uCall Mt _) _ 36 (_, [(.inl x44), (.inl 1), (.inr (.inr (some 13)))], _, _, _)
  obtain ⟨xs46, hc45, hn47, he48⟩ := hO41.int (hO41.fix 13 (by decide) rfl)
  refine ur_astV (W := []) (m := 10) rfl hO41 hc45 (by decide) hn47 (by omega) (any_r _) (Or.inl rfl) (fun h51 hO51 hu51 d49 hc50 => ?_)
  refine ur_ldA rfl rfl ?_
  refine ur_get rfl ((d49 _ (by decide)).trans ((d39 _ (by decide)).trans hc25)) rfl ?_
  refine ur_push rfl ?_
  refine ur_ldA rfl rfl ?_
  have hc52 := ((d49 _ (ne_tg (hu51.tm (hu41.tm t2 (by decide)) (by decide)) (hO51.fix 13 (by decide) rfl) (by decide))).trans ((d39 _ (ne_tg (hu41.tm t2 (by decide)) (hO41.fix 13 (by decide) rfl) (by decide))).trans hc1))
  refine ur_get rfl hc52 rfl ?_
  obtain ⟨xs54, hc53, hn55, he56⟩ := hO51.int (hO51.fix 13 (by decide) rfl)
  refine ur_astV (W := []) (m := 10) rfl hO51 hc53 (by decide) hn55 (by omega) (any_r _) (Or.inl rfl) (fun h59 hO59 hu59 d57 hc58 => ?_)
  refine ur_ldA rfl rfl ?_
  refine ur_get rfl ((d57 _ (by decide)).trans ((d49 _ (by decide)).trans ((d39 _ (by decide)).trans hc25))) rfl ?_
  refine ur_push rfl ?_
  refine ur_ldI rfl rfl ?_
  obtain ⟨xs61, hc60, hn62, he63⟩ := hO59.int (hO59.fix 13 (by decide) rfl)
  refine ur_astV (W := []) (m := 10) rfl hO59 hc60 (by decide) hn62 (by omega) (any_r _) (Or.inl rfl) (fun h66 hO66 hu66 d64 hc65 => ?_)
  refine ur_ldA rfl rfl ?_
  refine ur_get rfl ((d64 _ (by decide)).trans ((d57 _ (by decide)).trans ((d49 _ (by decide)).trans ((d39 _ (by decide)).trans hc25)))) rfl ?_
  refine ur_push rfl ?_
  refine ur_ldI rfl rfl ?_
  obtain ⟨xs68, hc67, hn69, he70⟩ := hO66.int (hO66.fix 13 (by decide) rfl)
  refine ur_astV (W := []) (m := 10) rfl hO66 hc67 (by decide) hn69 (by omega) (any_r _) (Or.inl rfl) (fun h73 hO73 hu73 d71 hc72 => ?_)
  refine ur_ldA rfl rfl ?_
  refine ur_get rfl ((d71 _ (by decide)).trans ((d64 _ (by decide)).trans ((d57 _ (by decide)).trans ((d49 _ (by decide)).trans ((d39 _ (by decide)).trans hc25))))) rfl ?_
  refine ur_push rfl ?_
  refine ur_ldI rfl rfl ?_
  refine ur_push rfl ?_
  refine ur_divV rfl (by decide) (fun x74 e75 => ?_)
  have t76 : 0 ≤ a5.toInt → x74.toInt = a5.toInt % 30 := fun q => ti_rem e75 l_30 (by decide) q
  obtain ⟨xs78, hc77, hn79, he80⟩ := hO73.int (hO73.fix 13 (by decide) rfl)
  refine ur_astV (W := []) (m := 10) rfl hO73 hc77 (by decide) hn79 (by omega) (any_r _) (Or.inl rfl) (fun h83 hO83 hu83 d81 hc82 => ?_)
  refine ur_ldA rfl rfl ?_
  refine ur_get rfl ((d81 _ (by decide)).trans ((d71 _ (by decide)).trans ((d64 _ (by decide)).trans ((d57 _ (by decide)).trans ((d49 _ (by decide)).trans ((d39 _ (by decide)).trans hc25)))))) rfl ?_
  refine ur_push rfl ?_
  refine ur_ldI rfl rfl ?_
  obtain ⟨xs85, hc84, hn86, he87⟩ := hO83.int (hO83.fix 13 (by decide) rfl)
  refine ur_astV (W := []) (m := 10) rfl hO83 hc84 (by decide) hn86 (by omega) (any_r _) (Or.inl rfl) (fun h90 hO90 hu90 d88 hc89 => ?_)
  refine ur_ldA rfl rfl ?_
  refine ur_ldA rfl rfl ?_
  refine ur_get rfl ((d88 _ (by decide)).trans ((d81 _ (by decide)).trans ((d71 _ (by decide)).trans ((d64 _ (by decide)).trans ((d57 _ (by decide)).trans ((d49 _ (by decide)).trans ((d39 _ (by decide)).trans hc25))))))) rfl ?_
  refine ur_ldA rfl rfl ?_
  refine ur_get rfl ((d88 _ (by decide)).trans ((d81 _ (by decide)).trans ((d71 _ (by decide)).trans ((d64 _ (by decide)).trans ((d57 _ (by decide)).trans ((d49 _ (by decide)).trans ((d39 _ (by decide)).trans hc25))))))) rfl ?_
  obtain ⟨g95, f92, hc91, k93, k94⟩ := hO90.text (hu90.tm (hu83.tm (hu73.tm (hu66.tm (hu59.tm (hu51.tm (hu41.tm t1 (by decide)) (by decide)) (by decide)) (by decide)) (by decide)) (by decide)) (by decide))
  refine ur_inl rfl (rcv_of hc91) (Nat.le_of_ble_eq_true rfl) (Nat.le_of_ble_eq_true rfl) (sf_X9_valueWith hO90 (hu90.tm (hu83.tm (hu73.tm (hu66.tm (hu59.tm (hu51.tm (hu41.tm t1 (by decide)) (by decide)) (by decide)) (by decide)) (by decide)) (by decide)) (by decide)) (hO90.fix 13 (by decide) rfl) (hO90.fix 14 (by decide) rfl) rfl rfl (fun w96 h98 hr97 hO98 hv98 => ?_))
  have hu98 := hv98
  obtain ⟨x99, rfl⟩ := hr97
  show uRun _ (uCall Mt _) _ 94 (_, [(.inl x99)], _, _, _)
  exact ur_ret rfl rfl (hQ _ _ ⟨_, rfl⟩ hO98 (hu41.tr (hu51.tr (hu59.tr (hu66.tr (hu73.tr (hu83.tr (hu90.tr hu98))))))))

set_option maxRecDepth 20000 in
set_option maxHeartbeats 4000000 in
theorem sf_X5_tailOf {d kc ks : Nat} {h0 : aH} {Q : Option aV → aH → Prop} (hO0 : OK h0) {a1 : Nat} (g1 : 114 ≤ a1) (t1 : tg h0 a1 = (102, 14)) (a2 : Int32) (a3 : Int32) (a4 : Int32) (hQ : ∀ r h', (∃ x, r = some (.inl x)) → OK h' → un [] h0 h' → Q r h') : uCall Mt (d + 4) 49 [(.inr (.inr (some 8))), (.inr (.inr (some a1))), (.inl a2), (.inl a3), (.inl a4)] h0 kc ks Q := by
  have l_0 : ((0) : Int32).toInt = 0 := by decide
  have l_99 : ((99) : Int32).toInt = 99 := by decide
  refine uc_ink [some (.inr (.inr (some 8))), some (.inr (.inr (some a1))), some (.inl a2), some (.inl a3), some (.inl a4)] mt_49 (Nat.le_of_ble_eq_true rfl) rfl ?_
  refine ur_ldA rfl rfl ?_
  obtain ⟨f2, hc1, k3⟩ := ok_8 hO0
  refine ur_get rfl hc1 rfl ?_
  obtain ⟨g8, f5, hc4, k6, k7⟩ := hO0.text (hO0.fix 11 (by decide) rfl)
  refine ur_inl rfl (rcv_of hc4) (Nat.le_of_ble_eq_true rfl) (Nat.le_of_ble_eq_true rfl) (sf_X9_isTold hO0 (hO0.fix 11 (by decide) rfl) (fun w9 hr10 => ?_))
  obtain ⟨b11, rfl⟩ := hr10
  show uRun _ (uCall Mt _) _ 7 (_, [(.inl (bi b11))], _, _, _)
  refine ur_eqB rfl (fun c12 => ?_) (fun c12 => ?_)
  · refine ur_push rfl ?_
    exact ur_ret rfl rfl (hQ _ _ ⟨_, rfl⟩ hO0 un.rf)
  · refine ur_push rfl ?_
    refine ur_push rfl ?_
    refine ur_ldA rfl rfl ?_
    refine ur_ldA rfl rfl ?_
    refine ur_get rfl hc1 rfl ?_
    refine ur_ldA rfl rfl ?_
    refine ur_ldI rfl rfl ?_
    refine ur_ldI rfl rfl ?_
    refine ur_ldI rfl rfl ?_
    refine ur_inl rfl (rcv_of hc1) (Nat.le_of_ble_eq_true rfl) (Nat.le_of_ble_eq_true rfl) (sf_X5_toldBy hO0 (hO0.fix 11 (by decide) rfl) g1 t1 _ _ _ (fun w13 h15 hr14 hO15 hv15 => ?_))
    have hu15 := hv15
    obtain ⟨x16, rfl⟩ := hr14
    show uRun _ (uCall Mt _) _ 26 (_, [(.inl x16), (.inl 99), (.inl 0)], _, _, _)
    refine ur_minV rfl (by show ¬ 9 ≤ 3; decide) (fun x17 t18 e19 => ?_)
    refine ur_maxV rfl (by show ¬ 9 ≤ 2; decide) (fun x20 t21 e22 => ?_)
    refine ur_go rfl ?_
    exact ur_ret rfl rfl (hQ _ _ ⟨_, rfl⟩ hO15 hu15)

set_option maxRecDepth 20000 in
set_option maxHeartbeats 4000000 in
theorem sf_X5_isAsSaid {d kc ks : Nat} {h0 : aH} {Q : Option aV → aH → Prop} (hO0 : OK h0) {a1 : Nat} (g1 : 114 ≤ a1) (t1 : tg h0 a1 = (110, 13)) {a2 : Nat} (g2 : 114 ≤ a2) (t2 : tg h0 a2 = (102, 14)) (a3 : Int32) (a4 : Int32) (hQ : ∀ r h', (∃ q, r = some (.inl (bi q))) → OK h' → un [] h0 h' → Q r h') : uCall Mt (d + 5) 55 [(.inr (.inr (some 8))), (.inr (.inr (some a1))), (.inr (.inr (some a2))), (.inl a3), (.inl a4)] h0 kc ks Q := by
  have l_0 : ((0) : Int32).toInt = 0 := by decide
  have l_1 : ((1) : Int32).toInt = 1 := by decide
  have l_7 : ((7) : Int32).toInt = 7 := by decide
  have l_10 : ((10) : Int32).toInt = 10 := by decide
  refine uc_ink [some (.inr (.inr (some 8))), some (.inr (.inr (some a1))), some (.inr (.inr (some a2))), some (.inl a3), some (.inl a4)] mt_55 (Nat.le_of_ble_eq_true rfl) rfl ?_
  refine ur_ldA rfl rfl ?_
  obtain ⟨g17, f2, f3, f4, f5, f6, f7, f8, f9, f10, o14, f11, f12, f13, hc1, k15, k16⟩ := hO0.word t1
  refine ur_get rfl hc1 rfl ?_
  rcases (show (f3.toInt < 1 ∨ 7 < f3.toInt) ∨ f3.toInt = 1 ∨ f3.toInt = 2 ∨ f3.toInt = 3 ∨ f3.toInt = 4 ∨ f3.toInt = 5 ∨ f3.toInt = 6 ∨ f3.toInt = 7 by omega) with t18 | t18 | t18 | t18 | t18 | t18 | t18 | t18
  · refine ur_tabO rfl (by show f3.toInt < 1 ∨ 1 + 7 ≤ f3.toInt; omega) ?_
    refine ur_push rfl ?_
    exact ur_ret rfl rfl (hQ _ _ ⟨true, rfl⟩ hO0 un.rf)
  · refine ur_tabI rfl (by omega) (by rw [t18]; rfl) ?_
    refine ur_ldA rfl rfl ?_
    refine ur_ldI rfl rfl ?_
    obtain ⟨g39, f20, f21, f22, f23, f24, f25, f26, f27, f28, f29, q30, q31, o32, q33, hc19, k34, k35, k36, k37, k38⟩ := hO0.comet t2
    refine ur_inl rfl (rcv_of hc19) (Nat.le_of_ble_eq_true rfl) (Nat.le_of_ble_eq_true rfl) (sf_X2_degreeAt hO0 g39 t2 _ (fun w40 hr41 => ?_))
    obtain ⟨x42, rfl⟩ := hr41
    show uRun _ (uCall Mt _) _ 53 (_, [(.inl x42)], _, _, _)
    refine ur_ldA rfl rfl ?_
    refine ur_get rfl hc1 rfl ?_
    refine ur_inl rfl rfl (Nat.le_of_ble_eq_true rfl) (Nat.le_of_ble_eq_true rfl) (sf_X5_offLodge _ _ (fun w43 hr44 => ?_))
    obtain ⟨x45, rfl⟩ := hr44
    show uRun _ (uCall Mt _) _ 60 (_, [(.inl x45)], _, _, _)
    refine ur_push rfl ?_
    refine ur_if2 rfl (fun c46 => ?_) (fun c46 => ?_)
    · have t47 := lt_to c46
      refine ur_push rfl ?_
      exact ur_ret rfl rfl (hQ _ _ ⟨false, rfl⟩ hO0 un.rf)
    · have t48 := lt_no c46
      refine ur_push rfl ?_
      refine ur_go rfl ?_
      exact ur_ret rfl rfl (hQ _ _ ⟨true, rfl⟩ hO0 un.rf)
  · refine ur_tabI rfl (by omega) (by rw [t18]; rfl) ?_
    refine ur_ldA rfl rfl ?_
    refine ur_ldI rfl rfl ?_
    refine ur_ldI rfl rfl ?_
    obtain ⟨g69, f50, f51, f52, f53, f54, f55, f56, f57, f58, f59, q60, q61, o62, q63, hc49, k64, k65, k66, k67, k68⟩ := hO0.comet t2
    refine ur_inl rfl (rcv_of hc49) (Nat.le_of_ble_eq_true rfl) (Nat.le_of_ble_eq_true rfl) (sf_X2_isWest hO0 g69 t2 _ _ (fun w70 hr71 => ?_))
    obtain ⟨b72, rfl⟩ := hr71
    show uRun _ (uCall Mt _) _ 99 (_, [(.inl (bi b72))], _, _, _)
    refine ur_ldA rfl rfl ?_
    refine ur_get rfl hc1 rfl ?_
    refine ur_push rfl ?_
    refine ur_if2 rfl (fun c73 => ?_) (fun c73 => ?_)
    · have t74 := ne_to c73
      refine ur_push rfl ?_
      refine ur_if2 rfl (fun c75 => ?_) (fun c75 => ?_)
      · have t76 := ne_to c75
        refine ur_push rfl ?_
        exact ur_ret rfl rfl (hQ _ _ ⟨false, rfl⟩ hO0 un.rf)
      · have t77 := ne_no c75
        refine ur_push rfl ?_
        refine ur_go rfl ?_
        exact ur_ret rfl rfl (hQ _ _ ⟨true, rfl⟩ hO0 un.rf)
    · have t78 := ne_no c73
      refine ur_push rfl ?_
      refine ur_go rfl ?_
      refine ur_if2 rfl (fun c79 => ?_) (fun c79 => ?_)
      · have t80 := ne_to c79
        refine ur_push rfl ?_
        exact ur_ret rfl rfl (hQ _ _ ⟨false, rfl⟩ hO0 un.rf)
      · have t81 := ne_no c79
        refine ur_push rfl ?_
        refine ur_go rfl ?_
        exact ur_ret rfl rfl (hQ _ _ ⟨true, rfl⟩ hO0 un.rf)
  · refine ur_tabI rfl (by omega) (by rw [t18]; rfl) ?_
    refine ur_push rfl ?_
    exact ur_ret rfl rfl (hQ _ _ ⟨true, rfl⟩ hO0 un.rf)
  · refine ur_tabI rfl (by omega) (by rw [t18]; rfl) ?_
    refine ur_ldI rfl rfl ?_
    refine ur_absV rfl (by show ¬ 9 ≤ 1; decide) (fun x82 t83 e84 => ?_)
    refine ur_push rfl ?_
    refine ur_if2 rfl (fun c85 => ?_) (fun c85 => ?_)
    · have t86 := lt_to c85
      refine ur_push rfl ?_
      exact ur_ret rfl rfl (hQ _ _ ⟨false, rfl⟩ hO0 un.rf)
    · have t87 := lt_no c85
      refine ur_push rfl ?_
      refine ur_go rfl ?_
      exact ur_ret rfl rfl (hQ _ _ ⟨true, rfl⟩ hO0 un.rf)
  · refine ur_tabI rfl (by omega) (by rw [t18]; rfl) ?_
    refine ur_ldA rfl rfl ?_
    refine ur_ldA rfl rfl ?_
    refine ur_ldA rfl rfl ?_
    refine ur_get rfl hc1 rfl ?_
    refine ur_ldI rfl rfl ?_
    refine ur_ldI rfl rfl ?_
    obtain ⟨f89, hc88, k90⟩ := ok_8 hO0
    refine ur_inl rfl (rcv_of hc88) (Nat.le_of_ble_eq_true rfl) (Nat.le_of_ble_eq_true rfl) (sf_X5_tailOf hO0 g2 t2 _ _ _ (fun w91 h93 hr92 hO93 hv93 => ?_))
    have hu93 := hv93
    obtain ⟨x94, rfl⟩ := hr92
    show uRun _ (uCall Mt _) _ 148 (_, [(.inl x94)], _, _, _)
    refine ur_if1 rfl (fun c95 => ?_) (fun c95 => ?_)
    · have t96 := ne_to c95
      refine ur_push rfl ?_
      exact ur_ret rfl rfl (hQ _ _ ⟨false, rfl⟩ hO93 hu93)
    · have t97 := ne_no c95
      refine ur_push rfl ?_
      refine ur_go rfl ?_
      exact ur_ret rfl rfl (hQ _ _ ⟨true, rfl⟩ hO93 hu93)
  · refine ur_tabI rfl (by omega) (by rw [t18]; rfl) ?_
    refine ur_ldA rfl rfl ?_
    refine ur_ldI rfl rfl ?_
    obtain ⟨g118, f99, f100, f101, f102, f103, f104, f105, f106, f107, f108, q109, q110, o111, q112, hc98, k113, k114, k115, k116, k117⟩ := hO0.comet t2
    refine ur_inl rfl (rcv_of hc98) (Nat.le_of_ble_eq_true rfl) (Nat.le_of_ble_eq_true rfl) (sf_X2_degreeAt hO0 g118 t2 _ (fun w119 hr120 => ?_))
    obtain ⟨x121, rfl⟩ := hr120
    show uRun _ (uCall Mt _) _ 76 (_, [(.inl x121)], _, _, _)
    refine ur_ldA rfl rfl ?_
    refine ur_get rfl hc1 rfl ?_
    refine ur_inl rfl rfl (Nat.le_of_ble_eq_true rfl) (Nat.le_of_ble_eq_true rfl) (sf_X5_offLodge _ _ (fun w122 hr123 => ?_))
    obtain ⟨x124, rfl⟩ := hr123
    show uRun _ (uCall Mt _) _ 83 (_, [(.inl x124)], _, _, _)
    refine ur_if1 rfl (fun c125 => ?_) (fun c125 => ?_)
    · have t126 := ne_to c125
      refine ur_push rfl ?_
      exact ur_ret rfl rfl (hQ _ _ ⟨false, rfl⟩ hO0 un.rf)
    · have t127 := ne_no c125
      refine ur_push rfl ?_
      refine ur_go rfl ?_
      exact ur_ret rfl rfl (hQ _ _ ⟨true, rfl⟩ hO0 un.rf)
  · refine ur_tabI rfl (by omega) (by rw [t18]; rfl) ?_
    refine ur_ldA rfl rfl ?_
    refine ur_ldI rfl rfl ?_
    refine ur_ldI rfl rfl ?_
    obtain ⟨g148, f129, f130, f131, f132, f133, f134, f135, f136, f137, f138, q139, q140, o141, q142, hc128, k143, k144, k145, k146, k147⟩ := hO0.comet t2
    refine ur_inl rfl (rcv_of hc128) (Nat.le_of_ble_eq_true rfl) (Nat.le_of_ble_eq_true rfl) (sf_X2_isWest hO0 g148 t2 _ _ (fun w149 hr150 => ?_))
    obtain ⟨b151, rfl⟩ := hr150
    show uRun _ (uCall Mt _) _ 99 (_, [(.inl (bi b151))], _, _, _)
    refine ur_ldA rfl rfl ?_
    refine ur_get rfl hc1 rfl ?_
    refine ur_push rfl ?_
    refine ur_if2 rfl (fun c152 => ?_) (fun c152 => ?_)
    · have t153 := ne_to c152
      refine ur_push rfl ?_
      refine ur_if2 rfl (fun c154 => ?_) (fun c154 => ?_)
      · have t155 := ne_to c154
        refine ur_push rfl ?_
        exact ur_ret rfl rfl (hQ _ _ ⟨false, rfl⟩ hO0 un.rf)
      · have t156 := ne_no c154
        refine ur_push rfl ?_
        refine ur_go rfl ?_
        exact ur_ret rfl rfl (hQ _ _ ⟨true, rfl⟩ hO0 un.rf)
    · have t157 := ne_no c152
      refine ur_push rfl ?_
      refine ur_go rfl ?_
      refine ur_if2 rfl (fun c158 => ?_) (fun c158 => ?_)
      · have t159 := ne_to c158
        refine ur_push rfl ?_
        exact ur_ret rfl rfl (hQ _ _ ⟨false, rfl⟩ hO0 un.rf)
      · have t160 := ne_no c158
        refine ur_push rfl ?_
        refine ur_go rfl ?_
        exact ur_ret rfl rfl (hQ _ _ ⟨true, rfl⟩ hO0 un.rf)

set_option maxRecDepth 20000 in
set_option maxHeartbeats 4000000 in
theorem sf_X6_cometAt {d kc ks : Nat} {h0 : aH} {Q : Option aV → aH → Prop} (hO0 : OK h0) (a1 : Int32) (hQ : ∀ r, (∃ o, r = some (.inr (.inr o)) ∧ ∀ z, o = some z → 114 ≤ z ∧ tg h0 z = (102, 14)) → Q r h0) : uCall Mt (d + 1) 60 [(.inr (.inr (some 1))), (.inl a1)] h0 kc ks Q := by
  have l_0 : ((0) : Int32).toInt = 0 := by decide
  refine uc_ink [some (.inr (.inr (some 1))), some (.inl a1)] mt_60 (Nat.le_of_ble_eq_true rfl) rfl ?_
  refine ur_ldI rfl rfl ?_
  refine ur_if1 rfl (fun c1 => ?_) (fun c1 => ?_)
  · have t2 := lt_to c1
    refine ur_push rfl ?_
    exact ur_ret rfl rfl (hQ _ ⟨_, rfl, fun _ e => nomatch e⟩ )
  · have t3 := lt_no c1
    refine ur_ldI rfl rfl ?_
    refine ur_ldA rfl rfl ?_
    obtain ⟨f5, f6, hc4, k7⟩ := ok_1 hO0
    refine ur_get rfl hc4 rfl ?_
    have z8 := any_r a1
    have z9 := any_r f6
    refine ur_if2 rfl (fun c10 => ?_) (fun c10 => ?_)
    · have t11 := le_to c10
      refine ur_push rfl ?_
      exact ur_ret rfl rfl (hQ _ ⟨_, rfl, fun _ e => nomatch e⟩ )
    · have t12 := le_no c10
      refine ur_ldA rfl rfl ?_
      refine ur_get rfl hc4 rfl ?_
      refine ur_ldI rfl rfl ?_
      obtain ⟨xs14, hc13, hn15, he16⟩ := hO0.com (hO0.fix 4 (by decide) rfl)
      refine ur_aldAV rfl hc13 hn15 (by omega) (fun o17 hx18 => ?_)
      have k19 : ∀ z, o17 = some z → 114 ≤ z ∧ tg h0 z = (102, 14) := fun z e => he16 _ z (by rw [hx18, e])
      refine ur_go rfl ?_
      exact ur_ret rfl rfl (hQ _ ⟨_, rfl, k19⟩ )

set_option maxRecDepth 20000 in
set_option maxHeartbeats 4000000 in
theorem sf_X6_wideOf {d kc ks : Nat} {h0 : aH} {Q : Option aV → aH → Prop} (hO0 : OK h0) (a1 : Int32) (b1 : -60 ≤ a1.toInt ∧ a1.toInt ≤ 60) (hQ : ∀ r, (∃ x : Int32, r = some (.inl x) ∧ 0 ≤ x.toInt ∧ x.toInt ≤ 14400) → Q r h0) : uCall Mt (d + 1) 62 [(.inr (.inr (some 1))), (.inl a1)] h0 kc ks Q := by
  have l_0 : ((0) : Int32).toInt = 0 := by decide
  have l_1 : ((1) : Int32).toInt = 1 := by decide
  refine uc_ink [some (.inr (.inr (some 1))), some (.inl a1), none, none] mt_62 (Nat.le_of_ble_eq_true rfl) rfl ?_
  refine ur_push rfl ?_
  refine ur_svIk [some (.inr (.inr (some 1))), some (.inl a1), some (.inl 0), none] rfl rfl ?_
  refine ur_push rfl ?_
  refine ur_svIk [some (.inr (.inr (some 1))), some (.inl a1), some (.inl 0), some (.inl 0)] rfl rfl ?_
  have L3 : ∀ (m4 : Nat) (x1 : Int32) (x2 : Int32) , ((0 ≤ x1.toInt ∧ x1.toInt ≤ 240) ∧ (0 ≤ x2.toInt ∧ x2.toInt ≤ 4) ∧ x1.toInt ≤ 60 * x2.toInt) → ((5 - x2.toInt).toNat) < m4 → uRun oX6_wideOf (uCall Mt (d + 0)) Q 4 ([some (.inr (.inr (some 1))), some (.inl a1), some (.inl x1), some (.inl x2)], [], h0, kc, ks) := by
    intro m4
    induction m4 with
    | zero => intro x1 x2 iv6 mm7; omega
    | succ m4 ih5 =>
      intro x1 x2 iv6 mm7
      refine ur_ldI rfl rfl ?_
      refine ur_ldA rfl rfl ?_
      obtain ⟨f9, f10, hc8, k11⟩ := ok_1 hO0
      refine ur_get rfl hc8 rfl ?_
      have z12 := any_r x2
      have z13 := any_r f9
      refine ur_if2 rfl (fun c14 => ?_) (fun c14 => ?_)
      · have t15 := le_to c14
        refine ur_ldI rfl rfl ?_
        refine ur_absV rfl (by show ¬ 9 ≤ 1; decide) (fun x16 t17 e18 => ?_)
        have t19 := t17 (by omega)
        refine ur_ldI rfl rfl ?_
        refine ur_binV rfl (fun x20 e21 => ?_)
        have z22 := any_r x16
        have z23 := any_r x1
        have t24 := ti_mulB (b := 60) (d := 240) e21 (by omega) (by omega) (by decide)
        exact ur_ret rfl rfl (hQ _ ⟨_, rfl, by omega⟩ )
      · have t25 := le_no c14
        refine ur_ldI rfl rfl ?_
        refine ur_ldA rfl rfl ?_
        refine ur_get rfl hc8 rfl ?_
        refine ur_ldI rfl rfl ?_
        obtain ⟨xs27, hc26, hn28, he29⟩ := hO0.int (hO0.fix 3 (by decide) rfl)
        refine ur_aldV rfl hc26 hn28 (by omega) (fun x30 hx31 => ?_)
        have t32 : 0 ≤ x30.toInt ∧ x30.toInt ≤ 60 := he29 _ _ hx31
        refine ur_binV rfl (fun x33 e34 => ?_)
        have z35 := any_r x1
        have z36 := any_r x30
        have t37 := ti_add e34 (by omega) (by omega)
        refine ur_svIk [some (.inr (.inr (some 1))), some (.inl a1), some (.inl x33), some (.inl x2)] rfl rfl ?_
        refine ur_incV (fun z => [some (.inr (.inr (some 1))), some (.inl a1), some (.inl x33), some (.inl z)]) rfl rfl (fun _ => rfl) (fun x38 e39 => ?_)
        have t40 := ti_add e39 (by omega) (by omega)
        refine ur_go rfl ?_
        have z41 := any_r x33
        have z42 := any_r x38
        exact ih5 x33 x38 (by omega) (by omega)
  exact L3 _ 0 0 (by omega) (Nat.lt_succ_self _)

set_option maxRecDepth 20000 in
set_option maxHeartbeats 4000000 in
theorem sf_X6_pulledFrom {d kc ks : Nat} {h0 : aH} {Q : Option aV → aH → Prop} (hO0 : OK h0) (a1 : Int32) (a2 : Int32) (hQ : ∀ r, (∃ x, r = some (.inl x)) → Q r h0) : uCall Mt (d + 1) 70 [(.inr (.inr (some 1))), (.inl a1), (.inl a2)] h0 kc ks Q := by
  have l_0 : ((0) : Int32).toInt = 0 := by decide
  have l_1 : ((1) : Int32).toInt = 1 := by decide
  have l_2 : ((2) : Int32).toInt = 2 := by decide
  refine uc_ink [some (.inr (.inr (some 1))), some (.inl a1), some (.inl a2), none, none, none] mt_70 (Nat.le_of_ble_eq_true rfl) rfl ?_
  refine ur_push rfl ?_
  refine ur_svIk [some (.inr (.inr (some 1))), some (.inl a1), some (.inl a2), some (.inl 0), none, none] rfl rfl ?_
  refine ur_push rfl ?_
  refine ur_svIk [some (.inr (.inr (some 1))), some (.inl a1), some (.inl a2), some (.inl 0), some (.inl 0), none] rfl rfl ?_
  have L4 : ∀ (m5 : Nat) (x1 : Int32) (x2 : Int32) (u3 : Option aV) , ((0 ≤ x2.toInt ∧ x2.toInt ≤ 2147483647)) → ((2147483648 - x2.toInt).toNat) < m5 → uRun oX6_pulledFrom (uCall Mt (d + 0)) Q 5 ([some (.inr (.inr (some 1))), some (.inl a1), some (.inl a2), some (.inl x1), some (.inl x2), u3], [], h0, kc, ks) := by
    intro m5
    induction m5 with
    | zero => intro x1 x2 u3 iv7 mm8; omega
    | succ m5 ih6 =>
      intro x1 x2 u3 iv7 mm8
      refine ur_ldI rfl rfl ?_
      refine ur_ldA rfl rfl ?_
      obtain ⟨f10, f11, hc9, k12⟩ := ok_1 hO0
      refine ur_get rfl hc9 rfl ?_
      have z13 := any_r x2
      have z14 := any_r f10
      refine ur_if2 rfl (fun c15 => ?_) (fun c15 => ?_)
      · have t16 := le_to c15
        refine ur_ldI rfl rfl ?_
        exact ur_ret rfl rfl (hQ _ ⟨_, rfl⟩ )
      · have t17 := le_no c15
        refine ur_ldA rfl rfl ?_
        refine ur_get rfl hc9 rfl ?_
        refine ur_ldI rfl rfl ?_
        obtain ⟨xs19, hc18, hn20, he21⟩ := hO0.int (hO0.fix 2 (by decide) rfl)
        refine ur_aldV rfl hc18 hn20 (by omega) (fun x22 hx23 => ?_)
        refine ur_svIk [some (.inr (.inr (some 1))), some (.inl a1), some (.inl a2), some (.inl x1), some (.inl x2), some (.inl x22)] rfl rfl ?_
        refine ur_ldI rfl rfl ?_
        refine ur_ldI rfl rfl ?_
        refine ur_binV rfl (fun x24 e25 => ?_)
        have z26 := any_r a2
        refine ur_push rfl ?_
        refine ur_binV rfl (fun x27 e28 => ?_)
        have t29 := and_1 e28
        refine ur_if1 rfl (fun c30 => ?_) (fun c30 => ?_)
        · have t31 := eq_to c30
          refine ur_incV (fun z => [some (.inr (.inr (some 1))), some (.inl a1), some (.inl a2), some (.inl x1), some (.inl z), some (.inl x22)]) rfl rfl (fun _ => rfl) (fun x32 e33 => ?_)
          have t34 := ti_add e33 (by omega) (by omega)
          refine ur_go rfl ?_
          have z35 := any_r x32
          exact ih6 x1 x32 _ (by omega) (by omega)
        · have t36 := eq_no c30
          refine ur_ldI rfl rfl ?_
          refine ur_if1 rfl (fun c37 => ?_) (fun c37 => ?_)
          · have t38 := ne_to c37
            refine ur_ldI rfl rfl ?_
            refine ur_push rfl ?_
            refine ur_ldI rfl rfl ?_
            refine ur_ldI rfl rfl ?_
            refine ur_divV rfl (of_decide_eq_true c37) (fun x39 e40 => ?_)
            have z41 := any_r a1
            have z42 := any_r x22
            refine ur_binV rfl (fun x43 e44 => ?_)
            have z45 := any_r x39
            refine ur_ldI rfl rfl ?_
            have z46 := any_r x43
            refine ur_if2 rfl (fun c47 => ?_) (fun c47 => ?_)
            · have t48 := le_to c47
              refine ur_ldA rfl rfl ?_
              refine ur_get rfl hc9 rfl ?_
              refine ur_ldI rfl rfl ?_
              obtain ⟨xs50, hc49, hn51, he52⟩ := hO0.int (hO0.fix 3 (by decide) rfl)
              refine ur_aldV rfl hc49 hn51 (by omega) (fun x53 hx54 => ?_)
              have t55 : 0 ≤ x53.toInt ∧ x53.toInt ≤ 60 := he52 _ _ hx54
              refine ur_unV rfl (fun x56 e57 => ?_)
              have z58 := any_r x53
              have t59 := ti_neg e57 (by omega)
              refine ur_binV rfl (fun x60 e61 => ?_)
              have z62 := any_r x1
              have z63 := any_r x56
              refine ur_svIk [some (.inr (.inr (some 1))), some (.inl a1), some (.inl a2), some (.inl x60), some (.inl x2), some (.inl x22)] rfl rfl ?_
              refine ur_incV (fun z => [some (.inr (.inr (some 1))), some (.inl a1), some (.inl a2), some (.inl x60), some (.inl z), some (.inl x22)]) rfl rfl (fun _ => rfl) (fun x64 e65 => ?_)
              have t66 := ti_add e65 (by omega) (by omega)
              refine ur_go rfl ?_
              have z67 := any_r x64
              exact ih6 x60 x64 _ (by omega) (by omega)
            · have t68 := le_no c47
              refine ur_ldA rfl rfl ?_
              refine ur_get rfl hc9 rfl ?_
              refine ur_ldI rfl rfl ?_
              obtain ⟨xs70, hc69, hn71, he72⟩ := hO0.int (hO0.fix 3 (by decide) rfl)
              refine ur_aldV rfl hc69 hn71 (by omega) (fun x73 hx74 => ?_)
              have t75 : 0 ≤ x73.toInt ∧ x73.toInt ≤ 60 := he72 _ _ hx74
              refine ur_go rfl ?_
              refine ur_binV rfl (fun x76 e77 => ?_)
              have z78 := any_r x1
              have z79 := any_r x73
              refine ur_svIk [some (.inr (.inr (some 1))), some (.inl a1), some (.inl a2), some (.inl x76), some (.inl x2), some (.inl x22)] rfl rfl ?_
              refine ur_incV (fun z => [some (.inr (.inr (some 1))), some (.inl a1), some (.inl a2), some (.inl x76), some (.inl z), some (.inl x22)]) rfl rfl (fun _ => rfl) (fun x80 e81 => ?_)
              have t82 := ti_add e81 (by omega) (by omega)
              refine ur_go rfl ?_
              have z83 := any_r x80
              exact ih6 x76 x80 _ (by omega) (by omega)
          · have t84 := ne_no c37
            refine ur_go rfl ?_
            refine ur_incV (fun z => [some (.inr (.inr (some 1))), some (.inl a1), some (.inl a2), some (.inl x1), some (.inl z), some (.inl x22)]) rfl rfl (fun _ => rfl) (fun x85 e86 => ?_)
            have t87 := ti_add e86 (by omega) (by omega)
            refine ur_go rfl ?_
            have z88 := any_r x85
            exact ih6 x1 x85 _ (by omega) (by omega)
  exact L4 _ 0 0 (none) (by omega) (Nat.lt_succ_self _)

set_option maxRecDepth 20000 in
set_option maxHeartbeats 4000000 in
theorem sf_X6_signedPulls {d kc ks : Nat} {h0 : aH} {Q : Option aV → aH → Prop} (hO0 : OK h0) (a1 : Int32) (hQ : ∀ r, (∃ x, r = some (.inl x)) → Q r h0) : uCall Mt (d + 1) 69 [(.inr (.inr (some 1))), (.inl a1)] h0 kc ks Q := by
  have l_0 : ((0) : Int32).toInt = 0 := by decide
  have l_1 : ((1) : Int32).toInt = 1 := by decide
  refine uc_ink [some (.inr (.inr (some 1))), some (.inl a1), none, none] mt_69 (Nat.le_of_ble_eq_true rfl) rfl ?_
  refine ur_push rfl ?_
  refine ur_svIk [some (.inr (.inr (some 1))), some (.inl a1), some (.inl 0), none] rfl rfl ?_
  refine ur_push rfl ?_
  refine ur_svIk [some (.inr (.inr (some 1))), some (.inl a1), some (.inl 0), some (.inl 0)] rfl rfl ?_
  have L3 : ∀ (m4 : Nat) (x1 : Int32) (x2 : Int32) , ((0 ≤ x2.toInt ∧ x2.toInt ≤ 2147483647)) → ((2147483648 - x2.toInt).toNat) < m4 → uRun oX6_signedPulls (uCall Mt (d + 0)) Q 4 ([some (.inr (.inr (some 1))), some (.inl a1), some (.inl x1), some (.inl x2)], [], h0, kc, ks) := by
    intro m4
    induction m4 with
    | zero => intro x1 x2 iv6 mm7; omega
    | succ m4 ih5 =>
      intro x1 x2 iv6 mm7
      refine ur_ldI rfl rfl ?_
      refine ur_ldA rfl rfl ?_
      obtain ⟨f9, f10, hc8, k11⟩ := ok_1 hO0
      refine ur_get rfl hc8 rfl ?_
      have z12 := any_r x2
      have z13 := any_r f9
      refine ur_if2 rfl (fun c14 => ?_) (fun c14 => ?_)
      · have t15 := le_to c14
        refine ur_ldI rfl rfl ?_
        exact ur_ret rfl rfl (hQ _ ⟨_, rfl⟩ )
      · have t16 := le_no c14
        refine ur_ldI rfl rfl ?_
        refine ur_ldI rfl rfl ?_
        refine ur_ldI rfl rfl ?_
        refine ur_binV rfl (fun x17 e18 => ?_)
        have z19 := any_r a1
        refine ur_push rfl ?_
        refine ur_binV rfl (fun x20 e21 => ?_)
        have t22 := and_1 e21
        refine ur_push rfl ?_
        refine ur_if2 rfl (fun c23 => ?_) (fun c23 => ?_)
        · have t24 := ne_to c23
          refine ur_ldA rfl rfl ?_
          refine ur_get rfl hc8 rfl ?_
          refine ur_ldI rfl rfl ?_
          obtain ⟨xs26, hc25, hn27, he28⟩ := hO0.int (hO0.fix 3 (by decide) rfl)
          refine ur_aldV rfl hc25 hn27 (by omega) (fun x29 hx30 => ?_)
          have t31 : 0 ≤ x29.toInt ∧ x29.toInt ≤ 60 := he28 _ _ hx30
          refine ur_unV rfl (fun x32 e33 => ?_)
          have z34 := any_r x29
          have t35 := ti_neg e33 (by omega)
          refine ur_binV rfl (fun x36 e37 => ?_)
          have z38 := any_r x1
          have z39 := any_r x32
          refine ur_svIk [some (.inr (.inr (some 1))), some (.inl a1), some (.inl x36), some (.inl x2)] rfl rfl ?_
          refine ur_incV (fun z => [some (.inr (.inr (some 1))), some (.inl a1), some (.inl x36), some (.inl z)]) rfl rfl (fun _ => rfl) (fun x40 e41 => ?_)
          have t42 := ti_add e41 (by omega) (by omega)
          refine ur_go rfl ?_
          have z43 := any_r x40
          exact ih5 x36 x40 (by omega) (by omega)
        · have t44 := ne_no c23
          refine ur_ldA rfl rfl ?_
          refine ur_get rfl hc8 rfl ?_
          refine ur_ldI rfl rfl ?_
          obtain ⟨xs46, hc45, hn47, he48⟩ := hO0.int (hO0.fix 3 (by decide) rfl)
          refine ur_aldV rfl hc45 hn47 (by omega) (fun x49 hx50 => ?_)
          have t51 : 0 ≤ x49.toInt ∧ x49.toInt ≤ 60 := he48 _ _ hx50
          refine ur_go rfl ?_
          refine ur_binV rfl (fun x52 e53 => ?_)
          have z54 := any_r x1
          have z55 := any_r x49
          refine ur_svIk [some (.inr (.inr (some 1))), some (.inl a1), some (.inl x52), some (.inl x2)] rfl rfl ?_
          refine ur_incV (fun z => [some (.inr (.inr (some 1))), some (.inl a1), some (.inl x52), some (.inl z)]) rfl rfl (fun _ => rfl) (fun x56 e57 => ?_)
          have t58 := ti_add e57 (by omega) (by omega)
          refine ur_go rfl ?_
          have z59 := any_r x56
          exact ih5 x52 x56 (by omega) (by omega)
  exact L3 _ 0 0 (by omega) (Nat.lt_succ_self _)

set_option maxRecDepth 20000 in
set_option maxHeartbeats 4000000 in
theorem sf_X6_passAhead {d kc ks : Nat} {h0 : aH} {Q : Option aV → aH → Prop} (hO0 : OK h0) (a1 : Int32) (a2 : Int32) (hQ : ∀ r, (∃ x, r = some (.inl x)) → Q r h0) : uCall Mt (d + 2) 68 [(.inr (.inr (some 1))), (.inl a1), (.inl a2)] h0 kc ks Q := by
  have l_m1 : ((-1) : Int32).toInt = -1 := by decide
  have l_0 : ((0) : Int32).toInt = 0 := by decide
  have l_1 : ((1) : Int32).toInt = 1 := by decide
  refine uc_ink [some (.inr (.inr (some 1))), some (.inl a1), some (.inl a2), none, none, none] mt_68 (Nat.le_of_ble_eq_true rfl) rfl ?_
  refine ur_push rfl ?_
  refine ur_svIk [some (.inr (.inr (some 1))), some (.inl a1), some (.inl a2), some (.inl (-1)), none, none] rfl rfl ?_
  refine ur_push rfl ?_
  refine ur_svIk [some (.inr (.inr (some 1))), some (.inl a1), some (.inl a2), some (.inl (-1)), some (.inl 0), none] rfl rfl ?_
  have L4 : ∀ (m5 : Nat) (x1 : Int32) (x2 : Int32) (u3 : Option aV) , ((0 ≤ x2.toInt ∧ x2.toInt ≤ 2147483647)) → ((2147483648 - x2.toInt).toNat) < m5 → uRun oX6_passAhead (uCall Mt (d + 1)) Q 5 ([some (.inr (.inr (some 1))), some (.inl a1), some (.inl a2), some (.inl x1), some (.inl x2), u3], [], h0, kc, ks) := by
    intro m5
    induction m5 with
    | zero => intro x1 x2 u3 iv7 mm8; omega
    | succ m5 ih6 =>
      intro x1 x2 u3 iv7 mm8
      refine ur_ldI rfl rfl ?_
      refine ur_ldA rfl rfl ?_
      obtain ⟨f10, f11, hc9, k12⟩ := ok_1 hO0
      refine ur_inl rfl (rcv_of hc9) (Nat.le_of_ble_eq_true rfl) (Nat.le_of_ble_eq_true rfl) (sf_X6_allGreats hO0  (fun w13 hr14 => ?_))
      obtain ⟨x15, rfl, t16⟩ := hr14
      show uRun _ (uCall Mt _) _ 11 (_, [(.inl x15), (.inl x2)], _, _, _)
      have z17 := any_r x2
      have z18 := any_r x15
      refine ur_if2 rfl (fun c19 => ?_) (fun c19 => ?_)
      · have t20 := lt_to c19
        refine ur_ldI rfl rfl ?_
        refine ur_push rfl ?_
        refine ur_if2 rfl (fun c21 => ?_) (fun c21 => ?_)
        · have t22 := ne_to c21
          refine ur_ldI rfl rfl ?_
          exact ur_ret rfl rfl (hQ _ ⟨_, rfl⟩ )
        · have t23 := ne_no c21
          refine ur_ldI rfl rfl ?_
          refine ur_ldI rfl rfl ?_
          refine ur_binV rfl (fun x24 e25 => ?_)
          have z26 := any_r a1
          have z27 := any_r a2
          refine ur_go rfl ?_
          exact ur_ret rfl rfl (hQ _ ⟨_, rfl⟩ )
      · have t28 := lt_no c19
        refine ur_ldI rfl rfl ?_
        refine ur_ldI rfl rfl ?_
        refine ur_binV rfl (fun x29 e30 => ?_)
        have z31 := any_r a1
        have z32 := any_r a2
        refine ur_ldA rfl rfl ?_
        refine ur_ldI rfl rfl ?_
        refine ur_inl rfl (rcv_of hc9) (Nat.le_of_ble_eq_true rfl) (Nat.le_of_ble_eq_true rfl) (sf_X6_signedPulls hO0 _ (fun w33 hr34 => ?_))
        obtain ⟨x35, rfl⟩ := hr34
        show uRun _ (uCall Mt _) _ 23 (_, [(.inl x35), (.inl x29)], _, _, _)
        refine ur_binV rfl (fun x36 e37 => ?_)
        have z38 := any_r x29
        have z39 := any_r x35
        refine ur_svIk [some (.inr (.inr (some 1))), some (.inl a1), some (.inl a2), some (.inl x1), some (.inl x2), some (.inl x36)] rfl rfl ?_
        refine ur_ldI rfl rfl ?_
        refine ur_if1 rfl (fun c40 => ?_) (fun c40 => ?_)
        · have t41 := lt_to c40
          refine ur_incV (fun z => [some (.inr (.inr (some 1))), some (.inl a1), some (.inl a2), some (.inl x1), some (.inl z), some (.inl x36)]) rfl rfl (fun _ => rfl) (fun x42 e43 => ?_)
          have t44 := ti_add e43 (by omega) (by omega)
          refine ur_go rfl ?_
          have z45 := any_r x42
          exact ih6 x1 x42 _ (by omega) (by omega)
        · have t46 := lt_no c40
          refine ur_ldI rfl rfl ?_
          refine ur_ldI rfl rfl ?_
          have z47 := any_r x36
          refine ur_if2 rfl (fun c48 => ?_) (fun c48 => ?_)
          · have t49 := le_to c48
            refine ur_incV (fun z => [some (.inr (.inr (some 1))), some (.inl a1), some (.inl a2), some (.inl x1), some (.inl z), some (.inl x36)]) rfl rfl (fun _ => rfl) (fun x50 e51 => ?_)
            have t52 := ti_add e51 (by omega) (by omega)
            refine ur_go rfl ?_
            have z53 := any_r x50
            exact ih6 x1 x50 _ (by omega) (by omega)
          · have t54 := le_no c48
            refine ur_ldI rfl rfl ?_
            refine ur_ldI rfl rfl ?_
            have z55 := any_r x1
            refine ur_if2 rfl (fun c56 => ?_) (fun c56 => ?_)
            · have t57 := lt_to c56
              refine ur_ldI rfl rfl ?_
              refine ur_ldI rfl rfl ?_
              refine ur_binV rfl (fun x58 e59 => ?_)
              refine ur_ldA rfl rfl ?_
              refine ur_ldI rfl rfl ?_
              refine ur_ldA rfl rfl ?_
              refine ur_inl rfl (rcv_of hc9) (Nat.le_of_ble_eq_true rfl) (Nat.le_of_ble_eq_true rfl) (sf_X6_allGreats hO0  (fun w60 hr61 => ?_))
              obtain ⟨x62, rfl, t63⟩ := hr61
              show uRun _ (uCall Mt _) _ 57 (_, [(.inl x62), (.inl x36), (.inr (.inr (some 1))), (.inl x58)], _, _, _)
              refine ur_inl rfl (rcv_of hc9) (Nat.le_of_ble_eq_true rfl) (Nat.le_of_ble_eq_true rfl) (sf_X6_pulledFrom hO0 _ _ (fun w64 hr65 => ?_))
              obtain ⟨x66, rfl⟩ := hr65
              show uRun _ (uCall Mt _) _ 60 (_, [(.inl x66), (.inl x58)], _, _, _)
              refine ur_binV rfl (fun x67 e68 => ?_)
              have z69 := any_r x58
              have z70 := any_r x66
              refine ur_ldI rfl rfl ?_
              have z71 := any_r x67
              refine ur_if2 rfl (fun c72 => ?_) (fun c72 => ?_)
              · have t73 := ne_to c72
                refine ur_incV (fun z => [some (.inr (.inr (some 1))), some (.inl a1), some (.inl a2), some (.inl x1), some (.inl z), some (.inl x36)]) rfl rfl (fun _ => rfl) (fun x74 e75 => ?_)
                have t76 := ti_add e75 (by omega) (by omega)
                refine ur_go rfl ?_
                have z77 := any_r x74
                exact ih6 x1 x74 _ (by omega) (by omega)
              · have t78 := ne_no c72
                refine ur_ldI rfl rfl ?_
                refine ur_svIk [some (.inr (.inr (some 1))), some (.inl a1), some (.inl a2), some (.inl x36), some (.inl x2), some (.inl x36)] rfl rfl ?_
                refine ur_incV (fun z => [some (.inr (.inr (some 1))), some (.inl a1), some (.inl a2), some (.inl x36), some (.inl z), some (.inl x36)]) rfl rfl (fun _ => rfl) (fun x79 e80 => ?_)
                have t81 := ti_add e80 (by omega) (by omega)
                refine ur_go rfl ?_
                have z82 := any_r x79
                exact ih6 x36 x79 _ (by omega) (by omega)
            · have t83 := lt_no c56
              refine ur_go rfl ?_
              refine ur_incV (fun z => [some (.inr (.inr (some 1))), some (.inl a1), some (.inl a2), some (.inl x1), some (.inl z), some (.inl x36)]) rfl rfl (fun _ => rfl) (fun x84 e85 => ?_)
              have t86 := ti_add e85 (by omega) (by omega)
              refine ur_go rfl ?_
              have z87 := any_r x84
              exact ih6 x1 x84 _ (by omega) (by omega)
  exact L4 _ (-1) 0 (none) (by omega) (Nat.lt_succ_self _)

set_option maxRecDepth 20000 in
set_option maxHeartbeats 4000000 in
theorem sf_X6_foretell {d kc ks : Nat} {h0 : aH} {Q : Option aV → aH → Prop} (hO0 : OK h0) {a1 : Nat} (g1 : 114 ≤ a1) (t1 : tg h0 a1 = (102, 14)) (a2 : Int32) (a3 : Int32) (hQ : ∀ r, (∃ x, r = some (.inl x)) → Q r h0) : uCall Mt (d + 3) 63 [(.inr (.inr (some 1))), (.inr (.inr (some a1))), (.inl a2), (.inl a3)] h0 kc ks Q := by
  have l_m2000000000 : ((-2000000000) : Int32).toInt = -2000000000 := by decide
  have l_0 : ((0) : Int32).toInt = 0 := by decide
  have l_1 : ((1) : Int32).toInt = 1 := by decide
  have l_999999 : ((999999) : Int32).toInt = 999999 := by decide
  refine uc_ink [some (.inr (.inr (some 1))), some (.inr (.inr (some a1))), some (.inl a2), some (.inl a3), none, none] mt_63 (Nat.le_of_ble_eq_true rfl) rfl ?_
  refine ur_ldA rfl rfl ?_
  obtain ⟨g21, f2, f3, f4, f5, f6, f7, f8, f9, f10, f11, q12, q13, o14, q15, hc1, k16, k17, k18, k19, k20⟩ := hO0.comet t1
  refine ur_get rfl hc1 rfl ?_
  refine ur_svIk [some (.inr (.inr (some 1))), some (.inr (.inr (some a1))), some (.inl a2), some (.inl a3), some (.inl f2), none] rfl rfl ?_
  refine ur_push rfl ?_
  refine ur_svIk [some (.inr (.inr (some 1))), some (.inr (.inr (some a1))), some (.inl a2), some (.inl a3), some (.inl f2), some (.inl 0)] rfl rfl ?_
  have L24 : ∀ (m25 : Nat) (x22 : Int32) (x23 : Int32) , ((0 ≤ x23.toInt ∧ x23.toInt ≤ 2147483647)) → ((2147483648 - x23.toInt).toNat) < m25 → uRun oX6_foretell (uCall Mt (d + 2)) Q 9 ([some (.inr (.inr (some 1))), some (.inr (.inr (some a1))), some (.inl a2), some (.inl a3), some (.inl x22), some (.inl x23)], [], h0, kc, ks) := by
    intro m25
    induction m25 with
    | zero => intro x22 x23 iv27 mm28; omega
    | succ m25 ih26 =>
      intro x22 x23 iv27 mm28
      refine ur_ldI rfl rfl ?_
      refine ur_ldI rfl rfl ?_
      have z29 := any_r x23
      have z30 := any_r a2
      refine ur_if2 rfl (fun c31 => ?_) (fun c31 => ?_)
      · have t32 := le_to c31
        refine ur_ldI rfl rfl ?_
        exact ur_ret rfl rfl (hQ _ ⟨_, rfl⟩ )
      · have t33 := le_no c31
        refine ur_ldI rfl rfl ?_
        refine ur_ldA rfl rfl ?_
        refine ur_get rfl hc1 rfl ?_
        refine ur_ldA rfl rfl ?_
        refine ur_ldI rfl rfl ?_
        refine ur_ldI rfl rfl ?_
        obtain ⟨f35, f36, hc34, k37⟩ := ok_1 hO0
        refine ur_inl rfl (rcv_of hc34) (Nat.le_of_ble_eq_true rfl) (Nat.le_of_ble_eq_true rfl) (sf_X6_pulledFrom hO0 _ _ (fun w38 hr39 => ?_))
        obtain ⟨x40, rfl⟩ := hr39
        show uRun _ (uCall Mt _) _ 28 (_, [(.inl x40), (.inl f3), (.inl x22)], _, _, _)
        refine ur_binV rfl (fun x41 e42 => ?_)
        have z43 := any_r f3
        have z44 := any_r x40
        refine ur_binV rfl (fun x45 e46 => ?_)
        have z47 := any_r x22
        have z48 := any_r x41
        refine ur_svIk [some (.inr (.inr (some 1))), some (.inr (.inr (some a1))), some (.inl a2), some (.inl a3), some (.inl x45), some (.inl x23)] rfl rfl ?_
        refine ur_ldI rfl rfl ?_
        refine ur_callv rfl rfl (Nat.le_of_ble_eq_true rfl) (Nat.le_of_ble_eq_true rfl) rfl (sp_isDay _ _) ?_
        refine ur_neB rfl (fun c51 => ?_) (fun c51 => ?_)
        · have t52 := wi_toL c51 l_0 l_999999
          refine ur_incV (fun z => [some (.inr (.inr (some 1))), some (.inr (.inr (some a1))), some (.inl a2), some (.inl a3), some (.inl x45), some (.inl z)]) rfl rfl (fun _ => rfl) (fun x53 e54 => ?_)
          have t55 := ti_add e54 (by omega) (by omega)
          refine ur_go rfl ?_
          have z56 := any_r x53
          exact ih26 x45 x53 (by omega) (by omega)
        · have t57 := wi_noL c51 l_0 l_999999
          refine ur_push rfl ?_
          exact ur_ret rfl rfl (hQ _ ⟨_, rfl⟩ )
  exact L24 _ f2 0 (by omega) (Nat.lt_succ_self _)

set_option maxRecDepth 20000 in
set_option maxHeartbeats 4000000 in
theorem sf_X6_reckonReturns {d kc ks : Nat} {h0 : aH} {Q : Option aV → aH → Prop} (hO0 : OK h0) (a1 : Option Nat) (t1 : ∀ z, a1 = some z → 114 ≤ z ∧ tg h0 z = (102, 14)) (hQ : ∀ r h', (r = none) → OK h' → un [221, 21208, 21209] h0 h' → Q r h') : uCall Mt (d + 4) 67 [(.inr (.inr (some 1))), (.inr (.inr a1))] h0 kc ks Q := by
  have l_m60 : ((-60) : Int32).toInt = -60 := by decide
  have l_m1 : ((-1) : Int32).toInt = -1 := by decide
  have l_0 : ((0) : Int32).toInt = 0 := by decide
  have l_1 : ((1) : Int32).toInt = 1 := by decide
  have l_60 : ((60) : Int32).toInt = 60 := by decide
  have l_999999 : ((999999) : Int32).toInt = 999999 := by decide
  refine uc_ink [some (.inr (.inr (some 1))), some (.inr (.inr a1)), none, none, none] mt_67 (Nat.le_of_ble_eq_true rfl) rfl ?_
  refine ur_ldA rfl rfl ?_
  cases a1 with
  | none =>
    refine ur_nulN rfl ?_
    exact ur_ret0 rfl (hQ _ _ rfl hO0 un.rf)
  | some r1 =>
    refine ur_nulS rfl ?_
    have k2 := t1 _ rfl
    refine ur_ldA rfl rfl ?_
    refine ur_push rfl ?_
    refine ur_ldA rfl rfl ?_
    obtain ⟨g23, f4, f5, f6, f7, f8, f9, f10, f11, f12, f13, q14, q15, o16, q17, hc3, k18, k19, k20, k21, k22⟩ := hO0.comet k2.2
    refine ur_get rfl hc3 rfl ?_
    refine ur_inl rfl (rcv_of hc3) (Nat.le_of_ble_eq_true rfl) (Nat.le_of_ble_eq_true rfl) (sf_X2_setPass hO0 g23 k2.2 _ _ (fun w24 h26 hr25 hO26 hv26 => ?_))
    have hu26 : un [221, 21208, 21209] h0 h26 := hv26.mono (by decide)
    subst hr25
    show uRun _ (uCall Mt _) _ 14 (_, [], _, _, _)
    refine ur_ldA rfl rfl ?_
    refine ur_push rfl ?_
    obtain ⟨g47, f28, f29, f30, f31, f32, f33, f34, f35, f36, f37, q38, q39, o40, q41, hc27, k42, k43, k44, k45, k46⟩ := hO26.comet (hu26.tm k2.2 (by decide))
    refine ur_putV (W := [221, 21208, 21209]) (fs' := [(.inl f28), (.inl f29), (.inl f30), (.inl f31), (.inl f32), (.inl f33), (.inl f34), (.inl f35), (.inl 0), (.inl f37), (.inr (.inr (some q38))), (.inr (.inr (some q39))), (.inr (.inr o40)), (.inr (.inr (some q41)))]) rfl hO26 hc27 (Nat.le_of_ble_eq_true rfl) rfl rfl ⟨g47, _, _, _, _, _, _, _, _, _, _, _, _, _, _, rfl, ⟨k42.1, k42.2⟩, ⟨k43.1, k43.2⟩, k44, ⟨k45.1, k45.2⟩, by omega⟩ rfl (Or.inr (by show 1000 + 100 * wid r1 (102, 14) + 8 ∈ _; rw [(wid_c g47)]; decide)) (fun h49 hO49 hu49 d48 hc50 => ?_)
    refine ur_ldA rfl rfl ?_
    refine ur_push rfl ?_
    refine ur_putV (W := [221, 21208, 21209]) (fs' := [(.inl f28), (.inl f29), (.inl f30), (.inl f31), (.inl f32), (.inl f33), (.inl f34), (.inl f35), (.inl 0), (.inl 0), (.inr (.inr (some q38))), (.inr (.inr (some q39))), (.inr (.inr o40)), (.inr (.inr (some q41)))]) rfl hO49 hc50 (Nat.le_of_ble_eq_true rfl) rfl rfl ⟨g47, _, _, _, _, _, _, _, _, _, _, _, _, _, _, rfl, ⟨k42.1, (hu49.tm k42.2 (by decide))⟩, ⟨k43.1, (hu49.tm k43.2 (by decide))⟩, (fun z e => ⟨(k44 z e).1, (hu49.tm (k44 z e).2 (by decide))⟩), ⟨k45.1, (hu49.tm k45.2 (by decide))⟩, by omega⟩ rfl (Or.inr (by show 1000 + 100 * wid r1 (102, 14) + 9 ∈ _; rw [(wid_c g47)]; decide)) (fun h52 hO52 hu52 d51 hc53 => ?_)
    refine ur_push rfl ?_
    refine ur_svIk [some (.inr (.inr (some 1))), some (.inr (.inr (some r1))), some (.inl 1), none, none] rfl rfl ?_
    have L57 : ∀ (m58 : Nat) (x54 : Int32) (u55 : Option aV) (u56 : Option aV) (h60 : aH) , OK h60 → un [221, 21208, 21209] h52 h60 → ((1 ≤ x54.toInt ∧ x54.toInt ≤ 61)) → ((62 - x54.toInt).toNat) < m58 → uRun oX6_reckonReturns (uCall Mt (d + 3)) Q 26 ([some (.inr (.inr (some 1))), some (.inr (.inr (some r1))), some (.inl x54), u55, u56], [], h60, kc, ks) := by
      intro m58
      induction m58 with
      | zero => intro x54 u55 u56 h60 hO60 hu60 iv61 mm62; omega
      | succ m58 ih59 =>
        intro x54 u55 u56 h60 hO60 hu60 iv61 mm62
        refine ur_ldI rfl rfl ?_
        refine ur_push rfl ?_
        refine ur_if2 rfl (fun c63 => ?_) (fun c63 => ?_)
        · have t64 := lt_to c63
          refine ur_push rfl ?_
          refine ur_svIk [some (.inr (.inr (some 1))), some (.inr (.inr (some r1))), some (.inl (-1)), u55, u56] rfl rfl ?_
          have L67 : ∀ (m68 : Nat) (x65 : Int32) (u66 : Option aV) (h70 : aH) , OK h70 → un [221, 21208, 21209] h60 h70 → ((-61 ≤ x65.toInt ∧ x65.toInt ≤ -1)) → ((x65.toInt + 62).toNat) < m68 → uRun oX6_reckonReturns (uCall Mt (d + 3)) Q 89 ([some (.inr (.inr (some 1))), some (.inr (.inr (some r1))), some (.inl x65), u66, u56], [], h70, kc, ks) := by
            intro m68
            induction m68 with
            | zero => intro x65 u66 h70 hO70 hu70 iv71 mm72; omega
            | succ m68 ih69 =>
              intro x65 u66 h70 hO70 hu70 iv71 mm72
              refine ur_ldI rfl rfl ?_
              refine ur_push rfl ?_
              refine ur_if2 rfl (fun c73 => ?_) (fun c73 => ?_)
              · have t74 := lt_to c73
                exact ur_ret0 rfl (hQ _ _ rfl hO70 (hu26.tr (hu49.tr (hu52.tr (hu60.tr hu70)))))
              · have t75 := lt_no c73
                refine ur_ldA rfl rfl ?_
                refine ur_ldA rfl rfl ?_
                refine ur_ldI rfl rfl ?_
                refine ur_push rfl ?_
                refine ur_binV rfl (fun x76 e77 => ?_)
                have z78 := any_r x65
                have t79 := ti_add e77 (by omega) (by omega)
                obtain ⟨g100, f81, f82, f83, f84, f85, f86, f87, f88, f89, f90, q91, q92, o93, q94, hc80, k95, k96, k97, k98, k99⟩ := hO70.comet (hu70.tm (hu60.tm (hu52.tm (hu49.tm (hu26.tm k2.2 (by decide)) (by decide)) (by decide)) (by decide)) (by decide))
                refine ur_inl rfl (rcv_of hc80) (Nat.le_of_ble_eq_true rfl) (Nat.le_of_ble_eq_true rfl) (sf_X2_passOf hO70 g100 (hu70.tm (hu60.tm (hu52.tm (hu49.tm (hu26.tm k2.2 (by decide)) (by decide)) (by decide)) (by decide)) (by decide)) _ (fun w101 hr102 => ?_))
                obtain ⟨x103, rfl⟩ := hr102
                show uRun _ (uCall Mt _) _ 103 (_, [(.inl x103), (.inr (.inr (some 1)))], _, _, _)
                refine ur_ldA rfl rfl ?_
                refine ur_get rfl hc80 rfl ?_
                obtain ⟨f105, f106, hc104, k107⟩ := ok_1 hO70
                refine ur_inl rfl (rcv_of hc104) (Nat.le_of_ble_eq_true rfl) (Nat.le_of_ble_eq_true rfl) (sf_X6_passAhead hO70 _ _ (fun w108 hr109 => ?_))
                obtain ⟨x110, rfl⟩ := hr109
                show uRun _ (uCall Mt _) _ 110 (_, [(.inl x110)], _, _, _)
                refine ur_svIk [some (.inr (.inr (some 1))), some (.inr (.inr (some r1))), some (.inl x65), some (.inl x110), u56] rfl rfl ?_
                refine ur_ldI rfl rfl ?_
                refine ur_callv rfl rfl (Nat.le_of_ble_eq_true rfl) (Nat.le_of_ble_eq_true rfl) rfl (sp_isDay _ _) ?_
                refine ur_neB rfl (fun c113 => ?_) (fun c113 => ?_)
                · have t114 := wi_toL c113 l_0 l_999999
                  refine ur_ldA rfl rfl ?_
                  refine ur_ldI rfl rfl ?_
                  refine ur_ldI rfl rfl ?_
                  refine ur_inl rfl (rcv_of hc80) (Nat.le_of_ble_eq_true rfl) (Nat.le_of_ble_eq_true rfl) (sf_X2_setPass hO70 g100 (hu70.tm (hu60.tm (hu52.tm (hu49.tm (hu26.tm k2.2 (by decide)) (by decide)) (by decide)) (by decide)) (by decide)) _ _ (fun w115 h117 hr116 hO117 hv117 => ?_))
                  have hu117 : un [221, 21208, 21209] h70 h117 := hv117.mono (by decide)
                  subst hr116
                  show uRun _ (uCall Mt _) _ 127 (_, [], _, _, _)
                  refine ur_ldA rfl rfl ?_
                  refine ur_ldI rfl rfl ?_
                  obtain ⟨g138, f119, f120, f121, f122, f123, f124, f125, f126, f127, f128, q129, q130, o131, q132, hc118, k133, k134, k135, k136, k137⟩ := hO117.comet (hu117.tm (hu70.tm (hu60.tm (hu52.tm (hu49.tm (hu26.tm k2.2 (by decide)) (by decide)) (by decide)) (by decide)) (by decide)) (by decide))
                  refine ur_putV (W := [221, 21208, 21209]) (fs' := [(.inl f119), (.inl f120), (.inl f121), (.inl f122), (.inl f123), (.inl f124), (.inl f125), (.inl f126), (.inl x65), (.inl f128), (.inr (.inr (some q129))), (.inr (.inr (some q130))), (.inr (.inr o131)), (.inr (.inr (some q132)))]) rfl hO117 hc118 (Nat.le_of_ble_eq_true rfl) rfl rfl ⟨g138, _, _, _, _, _, _, _, _, _, _, _, _, _, _, rfl, ⟨k133.1, k133.2⟩, ⟨k134.1, k134.2⟩, k135, ⟨k136.1, k136.2⟩, by omega⟩ rfl (Or.inr (by show 1000 + 100 * wid r1 (102, 14) + 8 ∈ _; rw [(wid_c g138)]; decide)) (fun h140 hO140 hu140 d139 hc141 => ?_)
                  refine ur_incV (fun z => [some (.inr (.inr (some 1))), some (.inr (.inr (some r1))), some (.inl z), some (.inl x110), u56]) rfl rfl (fun _ => rfl) (fun x142 e143 => ?_)
                  have t144 := ti_add e143 (by omega) (by omega)
                  refine ur_go rfl ?_
                  have z145 := any_r x142
                  exact ih69 x142 _ _ hO140 (hu70.tr (hu117.tr hu140)) (by omega) (by omega)
                · have t146 := wi_noL c113 l_0 l_999999
                  refine ur_go rfl ?_
                  exact ur_ret0 rfl (hQ _ _ rfl hO70 (hu26.tr (hu49.tr (hu52.tr (hu60.tr hu70)))))
          exact L67 _ (-1) (u55) _ hO60 un.rf (by omega) (Nat.lt_succ_self _)
        · have t147 := lt_no c63
          refine ur_ldA rfl rfl ?_
          refine ur_ldI rfl rfl ?_
          refine ur_push rfl ?_
          refine ur_binV rfl (fun x148 e149 => ?_)
          have z150 := any_r x54
          have t151 := ti_sub e149 (by omega) (by omega)
          obtain ⟨g172, f153, f154, f155, f156, f157, f158, f159, f160, f161, f162, q163, q164, o165, q166, hc152, k167, k168, k169, k170, k171⟩ := hO60.comet (hu60.tm (hu52.tm (hu49.tm (hu26.tm k2.2 (by decide)) (by decide)) (by decide)) (by decide))
          refine ur_inl rfl (rcv_of hc152) (Nat.le_of_ble_eq_true rfl) (Nat.le_of_ble_eq_true rfl) (sf_X2_passOf hO60 g172 (hu60.tm (hu52.tm (hu49.tm (hu26.tm k2.2 (by decide)) (by decide)) (by decide)) (by decide)) _ (fun w173 hr174 => ?_))
          obtain ⟨x175, rfl⟩ := hr174
          show uRun _ (uCall Mt _) _ 39 (_, [(.inl x175)], _, _, _)
          refine ur_svIk [some (.inr (.inr (some 1))), some (.inr (.inr (some r1))), some (.inl x54), some (.inl x175), u56] rfl rfl ?_
          refine ur_ldI rfl rfl ?_
          refine ur_ldA rfl rfl ?_
          refine ur_get rfl hc152 rfl ?_
          refine ur_binV rfl (fun x176 e177 => ?_)
          have z178 := any_r x175
          have z179 := any_r f154
          refine ur_ldA rfl rfl ?_
          refine ur_ldI rfl rfl ?_
          refine ur_ldA rfl rfl ?_
          obtain ⟨f181, f182, hc180, k183⟩ := ok_1 hO60
          refine ur_inl rfl (rcv_of hc180) (Nat.le_of_ble_eq_true rfl) (Nat.le_of_ble_eq_true rfl) (sf_X6_allGreats hO60  (fun w184 hr185 => ?_))
          obtain ⟨x186, rfl, t187⟩ := hr185
          show uRun _ (uCall Mt _) _ 52 (_, [(.inl x186), (.inl x175), (.inr (.inr (some 1))), (.inl x176)], _, _, _)
          refine ur_inl rfl (rcv_of hc180) (Nat.le_of_ble_eq_true rfl) (Nat.le_of_ble_eq_true rfl) (sf_X6_pulledFrom hO60 _ _ (fun w188 hr189 => ?_))
          obtain ⟨x190, rfl⟩ := hr189
          show uRun _ (uCall Mt _) _ 55 (_, [(.inl x190), (.inl x176)], _, _, _)
          refine ur_binV rfl (fun x191 e192 => ?_)
          have z193 := any_r x176
          have z194 := any_r x190
          refine ur_svIk [some (.inr (.inr (some 1))), some (.inr (.inr (some r1))), some (.inl x54), some (.inl x175), some (.inl x191)] rfl rfl ?_
          refine ur_ldI rfl rfl ?_
          refine ur_callv rfl rfl (Nat.le_of_ble_eq_true rfl) (Nat.le_of_ble_eq_true rfl) rfl (sp_isDay _ _) ?_
          refine ur_neB rfl (fun c197 => ?_) (fun c197 => ?_)
          · have t198 := wi_toL c197 l_0 l_999999
            refine ur_ldA rfl rfl ?_
            refine ur_ldI rfl rfl ?_
            refine ur_ldI rfl rfl ?_
            refine ur_inl rfl (rcv_of hc152) (Nat.le_of_ble_eq_true rfl) (Nat.le_of_ble_eq_true rfl) (sf_X2_setPass hO60 g172 (hu60.tm (hu52.tm (hu49.tm (hu26.tm k2.2 (by decide)) (by decide)) (by decide)) (by decide)) _ _ (fun w199 h201 hr200 hO201 hv201 => ?_))
            have hu201 : un [221, 21208, 21209] h60 h201 := hv201.mono (by decide)
            subst hr200
            show uRun _ (uCall Mt _) _ 76 (_, [], _, _, _)
            refine ur_ldA rfl rfl ?_
            refine ur_ldI rfl rfl ?_
            obtain ⟨g222, f203, f204, f205, f206, f207, f208, f209, f210, f211, f212, q213, q214, o215, q216, hc202, k217, k218, k219, k220, k221⟩ := hO201.comet (hu201.tm (hu60.tm (hu52.tm (hu49.tm (hu26.tm k2.2 (by decide)) (by decide)) (by decide)) (by decide)) (by decide))
            refine ur_putV (W := [221, 21208, 21209]) (fs' := [(.inl f203), (.inl f204), (.inl f205), (.inl f206), (.inl f207), (.inl f208), (.inl f209), (.inl f210), (.inl f211), (.inl x54), (.inr (.inr (some q213))), (.inr (.inr (some q214))), (.inr (.inr o215)), (.inr (.inr (some q216)))]) rfl hO201 hc202 (Nat.le_of_ble_eq_true rfl) rfl rfl ⟨g222, _, _, _, _, _, _, _, _, _, _, _, _, _, _, rfl, ⟨k217.1, k217.2⟩, ⟨k218.1, k218.2⟩, k219, ⟨k220.1, k220.2⟩, by omega⟩ rfl (Or.inr (by show 1000 + 100 * wid r1 (102, 14) + 9 ∈ _; rw [(wid_c g222)]; decide)) (fun h224 hO224 hu224 d223 hc225 => ?_)
            refine ur_incV (fun z => [some (.inr (.inr (some 1))), some (.inr (.inr (some r1))), some (.inl z), some (.inl x175), some (.inl x191)]) rfl rfl (fun _ => rfl) (fun x226 e227 => ?_)
            have t228 := ti_add e227 (by omega) (by omega)
            refine ur_go rfl ?_
            have z229 := any_r x226
            exact ih59 x226 _ _ _ hO224 (hu60.tr (hu201.tr hu224)) (by omega) (by omega)
          · have t230 := wi_noL c197 l_0 l_999999
            refine ur_go rfl ?_
            refine ur_push rfl ?_
            refine ur_svIk [some (.inr (.inr (some 1))), some (.inr (.inr (some r1))), some (.inl (-1)), some (.inl x175), some (.inl x191)] rfl rfl ?_
            have L233 : ∀ (m234 : Nat) (x231 : Int32) (u232 : Option aV) (h236 : aH) , OK h236 → un [221, 21208, 21209] h60 h236 → ((-61 ≤ x231.toInt ∧ x231.toInt ≤ -1)) → ((x231.toInt + 62).toNat) < m234 → uRun oX6_reckonReturns (uCall Mt (d + 3)) Q 89 ([some (.inr (.inr (some 1))), some (.inr (.inr (some r1))), some (.inl x231), u232, some (.inl x191)], [], h236, kc, ks) := by
              intro m234
              induction m234 with
              | zero => intro x231 u232 h236 hO236 hu236 iv237 mm238; omega
              | succ m234 ih235 =>
                intro x231 u232 h236 hO236 hu236 iv237 mm238
                refine ur_ldI rfl rfl ?_
                refine ur_push rfl ?_
                refine ur_if2 rfl (fun c239 => ?_) (fun c239 => ?_)
                · have t240 := lt_to c239
                  exact ur_ret0 rfl (hQ _ _ rfl hO236 (hu26.tr (hu49.tr (hu52.tr (hu60.tr hu236)))))
                · have t241 := lt_no c239
                  refine ur_ldA rfl rfl ?_
                  refine ur_ldA rfl rfl ?_
                  refine ur_ldI rfl rfl ?_
                  refine ur_push rfl ?_
                  refine ur_binV rfl (fun x242 e243 => ?_)
                  have z244 := any_r x231
                  have t245 := ti_add e243 (by omega) (by omega)
                  obtain ⟨g266, f247, f248, f249, f250, f251, f252, f253, f254, f255, f256, q257, q258, o259, q260, hc246, k261, k262, k263, k264, k265⟩ := hO236.comet (hu236.tm (hu60.tm (hu52.tm (hu49.tm (hu26.tm k2.2 (by decide)) (by decide)) (by decide)) (by decide)) (by decide))
                  refine ur_inl rfl (rcv_of hc246) (Nat.le_of_ble_eq_true rfl) (Nat.le_of_ble_eq_true rfl) (sf_X2_passOf hO236 g266 (hu236.tm (hu60.tm (hu52.tm (hu49.tm (hu26.tm k2.2 (by decide)) (by decide)) (by decide)) (by decide)) (by decide)) _ (fun w267 hr268 => ?_))
                  obtain ⟨x269, rfl⟩ := hr268
                  show uRun _ (uCall Mt _) _ 103 (_, [(.inl x269), (.inr (.inr (some 1)))], _, _, _)
                  refine ur_ldA rfl rfl ?_
                  refine ur_get rfl hc246 rfl ?_
                  refine ur_inl rfl (rcv_of (hu236.ko (n := 5) hc180 rfl (wid_f (by decide)) (by decide))) (Nat.le_of_ble_eq_true rfl) (Nat.le_of_ble_eq_true rfl) (sf_X6_passAhead hO236 _ _ (fun w270 hr271 => ?_))
                  obtain ⟨x272, rfl⟩ := hr271
                  show uRun _ (uCall Mt _) _ 110 (_, [(.inl x272)], _, _, _)
                  refine ur_svIk [some (.inr (.inr (some 1))), some (.inr (.inr (some r1))), some (.inl x231), some (.inl x272), some (.inl x191)] rfl rfl ?_
                  refine ur_ldI rfl rfl ?_
                  refine ur_callv rfl rfl (Nat.le_of_ble_eq_true rfl) (Nat.le_of_ble_eq_true rfl) rfl (sp_isDay _ _) ?_
                  refine ur_neB rfl (fun c275 => ?_) (fun c275 => ?_)
                  · have t276 := wi_toL c275 l_0 l_999999
                    refine ur_ldA rfl rfl ?_
                    refine ur_ldI rfl rfl ?_
                    refine ur_ldI rfl rfl ?_
                    refine ur_inl rfl (rcv_of hc246) (Nat.le_of_ble_eq_true rfl) (Nat.le_of_ble_eq_true rfl) (sf_X2_setPass hO236 g266 (hu236.tm (hu60.tm (hu52.tm (hu49.tm (hu26.tm k2.2 (by decide)) (by decide)) (by decide)) (by decide)) (by decide)) _ _ (fun w277 h279 hr278 hO279 hv279 => ?_))
                    have hu279 : un [221, 21208, 21209] h236 h279 := hv279.mono (by decide)
                    subst hr278
                    show uRun _ (uCall Mt _) _ 127 (_, [], _, _, _)
                    refine ur_ldA rfl rfl ?_
                    refine ur_ldI rfl rfl ?_
                    obtain ⟨g300, f281, f282, f283, f284, f285, f286, f287, f288, f289, f290, q291, q292, o293, q294, hc280, k295, k296, k297, k298, k299⟩ := hO279.comet (hu279.tm (hu236.tm (hu60.tm (hu52.tm (hu49.tm (hu26.tm k2.2 (by decide)) (by decide)) (by decide)) (by decide)) (by decide)) (by decide))
                    refine ur_putV (W := [221, 21208, 21209]) (fs' := [(.inl f281), (.inl f282), (.inl f283), (.inl f284), (.inl f285), (.inl f286), (.inl f287), (.inl f288), (.inl x231), (.inl f290), (.inr (.inr (some q291))), (.inr (.inr (some q292))), (.inr (.inr o293)), (.inr (.inr (some q294)))]) rfl hO279 hc280 (Nat.le_of_ble_eq_true rfl) rfl rfl ⟨g300, _, _, _, _, _, _, _, _, _, _, _, _, _, _, rfl, ⟨k295.1, k295.2⟩, ⟨k296.1, k296.2⟩, k297, ⟨k298.1, k298.2⟩, by omega⟩ rfl (Or.inr (by show 1000 + 100 * wid r1 (102, 14) + 8 ∈ _; rw [(wid_c g300)]; decide)) (fun h302 hO302 hu302 d301 hc303 => ?_)
                    refine ur_incV (fun z => [some (.inr (.inr (some 1))), some (.inr (.inr (some r1))), some (.inl z), some (.inl x272), some (.inl x191)]) rfl rfl (fun _ => rfl) (fun x304 e305 => ?_)
                    have t306 := ti_add e305 (by omega) (by omega)
                    refine ur_go rfl ?_
                    have z307 := any_r x304
                    exact ih235 x304 _ _ hO302 (hu236.tr (hu279.tr hu302)) (by omega) (by omega)
                  · have t308 := wi_noL c275 l_0 l_999999
                    refine ur_go rfl ?_
                    exact ur_ret0 rfl (hQ _ _ rfl hO236 (hu26.tr (hu49.tr (hu52.tr (hu60.tr hu236)))))
            exact L233 _ (-1) (some (.inl x175)) _ hO60 un.rf (by omega) (Nat.lt_succ_self _)
    exact L57 _ 1 (none) (none) _ hO52 un.rf (by omega) (Nat.lt_succ_self _)

set_option maxRecDepth 20000 in
set_option maxHeartbeats 4000000 in
theorem sf_X6_firstOf {d kc ks : Nat} {h0 : aH} {Q : Option aV → aH → Prop} (hO0 : OK h0) (a1 : Int32) (hQ : ∀ r, (∃ x, r = some (.inl x)) → Q r h0) : uCall Mt (d + 2) 66 [(.inr (.inr (some 1))), (.inl a1)] h0 kc ks Q := by
  have l_0 : ((0) : Int32).toInt = 0 := by decide
  have l_1 : ((1) : Int32).toInt = 1 := by decide
  refine uc_ink [some (.inr (.inr (some 1))), some (.inl a1), none, none, none] mt_66 (Nat.le_of_ble_eq_true rfl) rfl ?_
  refine ur_ldI rfl rfl ?_
  refine ur_svIk [some (.inr (.inr (some 1))), some (.inl a1), some (.inl a1), none, none] rfl rfl ?_
  refine ur_push rfl ?_
  refine ur_svIk [some (.inr (.inr (some 1))), some (.inl a1), some (.inl a1), some (.inl 0), none] rfl rfl ?_
  have L4 : ∀ (m5 : Nat) (x1 : Int32) (x2 : Int32) (u3 : Option aV) , ((0 ≤ x2.toInt ∧ x2.toInt ≤ 2147483647)) → ((2147483648 - x2.toInt).toNat) < m5 → uRun oX6_firstOf (uCall Mt (d + 1)) Q 4 ([some (.inr (.inr (some 1))), some (.inl a1), some (.inl x1), some (.inl x2), u3], [], h0, kc, ks) := by
    intro m5
    induction m5 with
    | zero => intro x1 x2 u3 iv7 mm8; omega
    | succ m5 ih6 =>
      intro x1 x2 u3 iv7 mm8
      refine ur_ldI rfl rfl ?_
      refine ur_ldA rfl rfl ?_
      obtain ⟨f10, f11, hc9, k12⟩ := ok_1 hO0
      refine ur_get rfl hc9 rfl ?_
      have z13 := any_r x2
      have z14 := any_r f11
      refine ur_if2 rfl (fun c15 => ?_) (fun c15 => ?_)
      · have t16 := le_to c15
        refine ur_ldI rfl rfl ?_
        exact ur_ret rfl rfl (hQ _ ⟨_, rfl⟩ )
      · have t17 := le_no c15
        refine ur_ldA rfl rfl ?_
        refine ur_ldI rfl rfl ?_
        refine ur_inl rfl (rcv_of hc9) (Nat.le_of_ble_eq_true rfl) (Nat.le_of_ble_eq_true rfl) (sf_X6_cometAt hO0 _ (fun w18 hr19 => ?_))
        obtain ⟨o20, rfl, k21⟩ := hr19
        show uRun _ (uCall Mt _) _ 17 (_, [(.inr (.inr o20))], _, _, _)
        refine ur_svAk [some (.inr (.inr (some 1))), some (.inl a1), some (.inl x1), some (.inl x2), some (.inr (.inr o20))] rfl rfl ?_
        refine ur_ldA rfl rfl ?_
        cases o20 with
        | none =>
          refine ur_nulN rfl ?_
          refine ur_ldI rfl rfl ?_
          exact ur_ret rfl rfl (hQ _ ⟨_, rfl⟩ )
        | some r22 =>
          refine ur_nulS rfl ?_
          have k23 := k21 _ rfl
          refine ur_ldA rfl rfl ?_
          obtain ⟨g44, f25, f26, f27, f28, f29, f30, f31, f32, f33, f34, q35, q36, o37, q38, hc24, k39, k40, k41, k42, k43⟩ := hO0.comet k23.2
          refine ur_get rfl hc24 rfl ?_
          refine ur_if1 rfl (fun c45 => ?_) (fun c45 => ?_)
          · have t46 := le_to c45
            refine ur_ldA rfl rfl ?_
            refine ur_get rfl hc24 rfl ?_
            refine ur_svIk [some (.inr (.inr (some 1))), some (.inl a1), some (.inl f31), some (.inl x2), some (.inr (.inr (some r22)))] rfl rfl ?_
            refine ur_incV (fun z => [some (.inr (.inr (some 1))), some (.inl a1), some (.inl f31), some (.inl z), some (.inr (.inr (some r22)))]) rfl rfl (fun _ => rfl) (fun x47 e48 => ?_)
            have t49 := ti_add e48 (by omega) (by omega)
            refine ur_go rfl ?_
            have z50 := any_r x47
            exact ih6 f31 x47 _ (by omega) (by omega)
          · have t51 := le_no c45
            refine ur_ldI rfl rfl ?_
            exact ur_ret rfl rfl (hQ _ ⟨_, rfl⟩ )
  exact L4 _ a1 0 (none) (by omega) (Nat.lt_succ_self _)

set_option maxRecDepth 20000 in
set_option maxHeartbeats 4000000 in
theorem sf_X6_kinOf {d kc ks : Nat} {h0 : aH} {Q : Option aV → aH → Prop} (hO0 : OK h0) (a1 : Int32) (hQ : ∀ r, (∃ x, r = some (.inl x)) → Q r h0) : uCall Mt (d + 3) 65 [(.inr (.inr (some 1))), (.inl a1)] h0 kc ks Q := by
  have l_0 : ((0) : Int32).toInt = 0 := by decide
  have l_1 : ((1) : Int32).toInt = 1 := by decide
  refine uc_ink [some (.inr (.inr (some 1))), some (.inl a1), none, none, none] mt_65 (Nat.le_of_ble_eq_true rfl) rfl ?_
  refine ur_ldA rfl rfl ?_
  refine ur_ldI rfl rfl ?_
  obtain ⟨f2, f3, hc1, k4⟩ := ok_1 hO0
  refine ur_inl rfl (rcv_of hc1) (Nat.le_of_ble_eq_true rfl) (Nat.le_of_ble_eq_true rfl) (sf_X6_firstOf hO0 _ (fun w5 hr6 => ?_))
  obtain ⟨x7, rfl⟩ := hr6
  show uRun _ (uCall Mt _) _ 5 (_, [(.inl x7)], _, _, _)
  refine ur_svIk [some (.inr (.inr (some 1))), some (.inl a1), some (.inl x7), none, none] rfl rfl ?_
  refine ur_push rfl ?_
  refine ur_svIk [some (.inr (.inr (some 1))), some (.inl a1), some (.inl x7), some (.inl 0), none] rfl rfl ?_
  refine ur_push rfl ?_
  refine ur_svIk [some (.inr (.inr (some 1))), some (.inl a1), some (.inl x7), some (.inl 0), some (.inl 0)] rfl rfl ?_
  have L10 : ∀ (m11 : Nat) (x8 : Int32) (x9 : Int32) , ((0 ≤ x9.toInt ∧ x9.toInt ≤ 2147483647)) → ((2147483648 - x9.toInt).toNat) < m11 → uRun oX6_kinOf (uCall Mt (d + 2)) Q 11 ([some (.inr (.inr (some 1))), some (.inl a1), some (.inl x7), some (.inl x8), some (.inl x9)], [], h0, kc, ks) := by
    intro m11
    induction m11 with
    | zero => intro x8 x9 iv13 mm14; omega
    | succ m11 ih12 =>
      intro x8 x9 iv13 mm14
      refine ur_ldI rfl rfl ?_
      refine ur_ldA rfl rfl ?_
      refine ur_get rfl hc1 rfl ?_
      have z15 := any_r x9
      have z16 := any_r f3
      refine ur_if2 rfl (fun c17 => ?_) (fun c17 => ?_)
      · have t18 := le_to c17
        refine ur_ldI rfl rfl ?_
        exact ur_ret rfl rfl (hQ _ ⟨_, rfl⟩ )
      · have t19 := le_no c17
        refine ur_ldA rfl rfl ?_
        refine ur_ldI rfl rfl ?_
        refine ur_inl rfl (rcv_of hc1) (Nat.le_of_ble_eq_true rfl) (Nat.le_of_ble_eq_true rfl) (sf_X6_firstOf hO0 _ (fun w20 hr21 => ?_))
        obtain ⟨x22, rfl⟩ := hr21
        show uRun _ (uCall Mt _) _ 26 (_, [(.inl x22)], _, _, _)
        refine ur_ldI rfl rfl ?_
        have z23 := any_r x22
        have z24 := any_r x7
        refine ur_if2 rfl (fun c25 => ?_) (fun c25 => ?_)
        · have t26 := ne_to c25
          refine ur_incV (fun z => [some (.inr (.inr (some 1))), some (.inl a1), some (.inl x7), some (.inl x8), some (.inl z)]) rfl rfl (fun _ => rfl) (fun x27 e28 => ?_)
          have t29 := ti_add e28 (by omega) (by omega)
          refine ur_go rfl ?_
          have z30 := any_r x27
          exact ih12 x8 x27 (by omega) (by omega)
        · have t31 := ne_no c25
          refine ur_ldI rfl rfl ?_
          refine ur_push rfl ?_
          refine ur_ldI rfl rfl ?_
          refine ur_binV rfl (fun x32 e33 => ?_)
          refine ur_binV rfl (fun x34 e35 => ?_)
          refine ur_svIk [some (.inr (.inr (some 1))), some (.inl a1), some (.inl x7), some (.inl x34), some (.inl x9)] rfl rfl ?_
          refine ur_incV (fun z => [some (.inr (.inr (some 1))), some (.inl a1), some (.inl x7), some (.inl x34), some (.inl z)]) rfl rfl (fun _ => rfl) (fun x36 e37 => ?_)
          have t38 := ti_add e37 (by omega) (by omega)
          refine ur_go rfl ?_
          have z39 := any_r x36
          exact ih12 x34 x36 (by omega) (by omega)
  exact L10 _ 0 0 (by omega) (Nat.lt_succ_self _)

set_option maxRecDepth 20000 in
set_option maxHeartbeats 4000000 in
theorem sf_X7_moveOf {d kc ks : Nat} {h0 : aH} {Q : Option aV → aH → Prop} (a0 : Int32) (hQ : ∀ r, (∃ x, r = some (.inl x)) → Q r h0) : uCall Mt (d + 1) 82 [(.inl a0)] h0 kc ks Q := by
  have l_10 : ((10) : Int32).toInt = 10 := by decide
  have l_400 : ((400) : Int32).toInt = 400 := by decide
  refine uc_ink [some (.inl a0)] mt_82 (Nat.le_of_ble_eq_true rfl) rfl ?_
  refine ur_ldI rfl rfl ?_
  refine ur_push rfl ?_
  refine ur_binV rfl (fun x1 e2 => ?_)
  have z3 := any_r a0
  refine ur_push rfl ?_
  refine ur_binV rfl (fun x4 e5 => ?_)
  have z6 := any_r x1
  exact ur_ret rfl rfl (hQ _ ⟨_, rfl⟩ )

set_option maxRecDepth 20000 in
set_option maxHeartbeats 4000000 in
theorem sf_X7_bestMove {d kc ks : Nat} {h0 : aH} {Q : Option aV → aH → Prop} (hO0 : OK h0) (a1 : Int32) (hQ : ∀ r, (∃ x, r = some (.inl x)) → Q r h0) : uCall Mt (d + 2) 81 [(.inr (.inr (some 41))), (.inl a1)] h0 kc ks Q := by
  have l_0 : ((0) : Int32).toInt = 0 := by decide
  have l_1 : ((1) : Int32).toInt = 1 := by decide
  have l_81 : ((81) : Int32).toInt = 81 := by decide
  refine uc_ink [some (.inr (.inr (some 41))), some (.inl a1), none, none, none] mt_81 (Nat.le_of_ble_eq_true rfl) rfl ?_
  refine ur_push rfl ?_
  refine ur_svIk [some (.inr (.inr (some 41))), some (.inl a1), some (.inl 0), none, none] rfl rfl ?_
  refine ur_push rfl ?_
  refine ur_svIk [some (.inr (.inr (some 41))), some (.inl a1), some (.inl 0), some (.inl 1), none] rfl rfl ?_
  have L4 : ∀ (m5 : Nat) (x1 : Int32) (x2 : Int32) (u3 : Option aV) , ((0 ≤ x1.toInt ∧ x1.toInt ≤ 80) ∧ (1 ≤ x2.toInt ∧ x2.toInt ≤ 81)) → ((82 - x2.toInt).toNat) < m5 → uRun oX7_bestMove (uCall Mt (d + 1)) Q 4 ([some (.inr (.inr (some 41))), some (.inl a1), some (.inl x1), some (.inl x2), u3], [], h0, kc, ks) := by
    intro m5
    induction m5 with
    | zero => intro x1 x2 u3 iv7 mm8; omega
    | succ m5 ih6 =>
      intro x1 x2 u3 iv7 mm8
      refine ur_ldI rfl rfl ?_
      refine ur_push rfl ?_
      refine ur_if2 rfl (fun c9 => ?_) (fun c9 => ?_)
      · have t10 := le_to c9
        refine ur_ldI rfl rfl ?_
        refine ur_if1 rfl (fun c11 => ?_) (fun c11 => ?_)
        · have t12 := ne_to c11
          refine ur_ldA rfl rfl ?_
          obtain ⟨f14, f15, hc13, k16⟩ := ok_41 hO0
          refine ur_get rfl hc13 rfl ?_
          refine ur_ldI rfl rfl ?_
          obtain ⟨xs18, hc17, hn19, he20⟩ := hO0.int (hO0.fix 50 (by decide) rfl)
          refine ur_aldV rfl hc17 hn19 (by omega) (fun x21 hx22 => ?_)
          exact ur_ret rfl rfl (hQ _ ⟨_, rfl⟩ )
        · have t23 := ne_no c11
          refine ur_ldI rfl rfl ?_
          refine ur_inl rfl rfl (Nat.le_of_ble_eq_true rfl) (Nat.le_of_ble_eq_true rfl) (sf_X7_moveOf _ (fun w24 hr25 => ?_))
          obtain ⟨x26, rfl⟩ := hr25
          show uRun _ (uCall Mt _) _ 68 (_, [(.inl x26)], _, _, _)
          refine ur_go rfl ?_
          exact ur_ret rfl rfl (hQ _ ⟨_, rfl⟩ )
      · have t27 := le_no c9
        refine ur_ldA rfl rfl ?_
        obtain ⟨f29, f30, hc28, k31⟩ := ok_41 hO0
        refine ur_get rfl hc28 rfl ?_
        refine ur_ldI rfl rfl ?_
        obtain ⟨xs33, hc32, hn34, he35⟩ := hO0.int (hO0.fix 50 (by decide) rfl)
        refine ur_aldV rfl hc32 hn34 (by omega) (fun x36 hx37 => ?_)
        refine ur_ldA rfl rfl ?_
        refine ur_get rfl hc28 rfl ?_
        refine ur_ldI rfl rfl ?_
        refine ur_aldV rfl hc32 hn34 (by omega) (fun x38 hx39 => ?_)
        refine ur_binV rfl (fun x40 e41 => ?_)
        have z42 := any_r x36
        have z43 := any_r x38
        refine ur_svIk [some (.inr (.inr (some 41))), some (.inl a1), some (.inl x1), some (.inl x2), some (.inl x40)] rfl rfl ?_
        refine ur_ldI rfl rfl ?_
        refine ur_if1 rfl (fun c44 => ?_) (fun c44 => ?_)
        · have t45 := lt_to c44
          refine ur_ldI rfl rfl ?_
          refine ur_svIk [some (.inr (.inr (some 41))), some (.inl a1), some (.inl x2), some (.inl x2), some (.inl x40)] rfl rfl ?_
          refine ur_incV (fun z => [some (.inr (.inr (some 41))), some (.inl a1), some (.inl x2), some (.inl z), some (.inl x40)]) rfl rfl (fun _ => rfl) (fun x46 e47 => ?_)
          have z48 := any_r x2
          have t49 := ti_add e47 (by omega) (by omega)
          refine ur_go rfl ?_
          have z50 := any_r x46
          exact ih6 x2 x46 _ (by omega) (by omega)
        · have t51 := lt_no c44
          refine ur_ldI rfl rfl ?_
          refine ur_if1 rfl (fun c52 => ?_) (fun c52 => ?_)
          · have t53 := ne_to c52
            refine ur_incV (fun z => [some (.inr (.inr (some 41))), some (.inl a1), some (.inl x1), some (.inl z), some (.inl x40)]) rfl rfl (fun _ => rfl) (fun x54 e55 => ?_)
            have z56 := any_r x2
            have t57 := ti_add e55 (by omega) (by omega)
            refine ur_go rfl ?_
            have z58 := any_r x1
            have z59 := any_r x54
            exact ih6 x1 x54 _ (by omega) (by omega)
          · have t60 := ne_no c52
            refine ur_ldI rfl rfl ?_
            refine ur_inl rfl rfl (Nat.le_of_ble_eq_true rfl) (Nat.le_of_ble_eq_true rfl) (sf_X7_moveOf _ (fun w61 hr62 => ?_))
            obtain ⟨x63, rfl⟩ := hr62
            show uRun _ (uCall Mt _) _ 39 (_, [(.inl x63)], _, _, _)
            refine ur_absV rfl (by show ¬ 9 ≤ 1; decide) (fun x64 t65 e66 => ?_)
            refine ur_ldI rfl rfl ?_
            refine ur_inl rfl rfl (Nat.le_of_ble_eq_true rfl) (Nat.le_of_ble_eq_true rfl) (sf_X7_moveOf _ (fun w67 hr68 => ?_))
            obtain ⟨x69, rfl⟩ := hr68
            show uRun _ (uCall Mt _) _ 46 (_, [(.inl x69), (.inl x64)], _, _, _)
            refine ur_absV rfl (by show ¬ 9 ≤ 2; decide) (fun x70 t71 e72 => ?_)
            have z73 := any_r x64
            have z74 := any_r x70
            refine ur_if2 rfl (fun c75 => ?_) (fun c75 => ?_)
            · have t76 := le_to c75
              refine ur_incV (fun z => [some (.inr (.inr (some 41))), some (.inl a1), some (.inl x1), some (.inl z), some (.inl x40)]) rfl rfl (fun _ => rfl) (fun x77 e78 => ?_)
              have z79 := any_r x2
              have t80 := ti_add e78 (by omega) (by omega)
              refine ur_go rfl ?_
              have z81 := any_r x1
              have z82 := any_r x77
              exact ih6 x1 x77 _ (by omega) (by omega)
            · have t83 := le_no c75
              refine ur_ldI rfl rfl ?_
              refine ur_svIk [some (.inr (.inr (some 41))), some (.inl a1), some (.inl x2), some (.inl x2), some (.inl x40)] rfl rfl ?_
              refine ur_incV (fun z => [some (.inr (.inr (some 41))), some (.inl a1), some (.inl x2), some (.inl z), some (.inl x40)]) rfl rfl (fun _ => rfl) (fun x84 e85 => ?_)
              have z86 := any_r x2
              have t87 := ti_add e85 (by omega) (by omega)
              refine ur_go rfl ?_
              have z88 := any_r x84
              exact ih6 x2 x84 _ (by omega) (by omega)
  exact L4 _ 0 1 (none) (by omega) (Nat.lt_succ_self _)

set_option maxRecDepth 20000 in
set_option maxHeartbeats 4000000 in
theorem sf_X7_isNewRoot {d kc ks : Nat} {h0 : aH} {Q : Option aV → aH → Prop} (hO0 : OK h0) {a1 : Nat} (g1 : 114 ≤ a1) (t1 : tg h0 a1 = (110, 13)) (a2 : Int32) (hQ : ∀ r, (∃ q, r = some (.inl (bi q))) → Q r h0) : uCall Mt (d + 2) 76 [(.inr (.inr (some 41))), (.inr (.inr (some a1))), (.inl a2)] h0 kc ks Q := by
  have l_0 : ((0) : Int32).toInt = 0 := by decide
  have l_1 : ((1) : Int32).toInt = 1 := by decide
  have l_3 : ((3) : Int32).toInt = 3 := by decide
  have l_6 : ((6) : Int32).toInt = 6 := by decide
  have l_63 : ((63) : Int32).toInt = 63 := by decide
  refine uc_ink [some (.inr (.inr (some 41))), some (.inr (.inr (some a1))), some (.inl a2), none] mt_76 (Nat.le_of_ble_eq_true rfl) rfl ?_
  refine ur_ldI rfl rfl ?_
  refine ur_push rfl ?_
  refine ur_binV rfl (fun x1 e2 => ?_)
  have z3 := any_r a2
  refine ur_ldA rfl rfl ?_
  obtain ⟨g20, f5, f6, f7, f8, f9, f10, f11, f12, f13, o17, f14, f15, f16, hc4, k18, k19⟩ := hO0.word t1
  refine ur_get rfl hc4 rfl ?_
  refine ur_push rfl ?_
  refine ur_binV rfl (fun x21 e22 => ?_)
  have z23 := any_r f5
  have t24 := shr_6 e22
  refine ur_binV rfl (fun x25 e26 => ?_)
  have z27 := any_r x1
  have z28 := any_r x21
  refine ur_svIk [some (.inr (.inr (some 41))), some (.inr (.inr (some a1))), some (.inl a2), some (.inl x25)] rfl rfl ?_
  refine ur_ldA rfl rfl ?_
  refine ur_get rfl hc4 rfl ?_
  refine ur_push rfl ?_
  refine ur_if2 rfl (fun c29 => ?_) (fun c29 => ?_)
  · have t30 := eq_to c29
    refine ur_push rfl ?_
    exact ur_ret rfl rfl (hQ _ ⟨false, rfl⟩ )
  · have t31 := eq_no c29
    refine ur_ldI rfl rfl ?_
    refine ur_push rfl ?_
    refine ur_ldA rfl rfl ?_
    obtain ⟨f33, f34, hc32, k35⟩ := ok_41 hO0
    refine ur_get rfl hc32 rfl ?_
    obtain ⟨xs37, hc36, hn38⟩ := hO0.lon (hO0.fix 45 (by decide) rfl)
    refine ur_lenV (m := 36) rfl hc36 hn38 (by decide) (fun x40 t41 => ?_)
    refine ur_push rfl ?_
    refine ur_binV rfl (fun x42 e43 => ?_)
    have z44 := any_r x40
    have t45 := ti_sub e43 (by omega) (by omega)
    refine ur_callv rfl rfl (Nat.le_of_ble_eq_true rfl) (Nat.le_of_ble_eq_true rfl) rfl (sp_within _ _ _ _ _) ?_
    refine ur_eqB rfl (fun c48 => ?_) (fun c48 => ?_)
    · have t49 := wi_no c48
      refine ur_push rfl ?_
      exact ur_ret rfl rfl (hQ _ ⟨false, rfl⟩ )
    · have t50 := wi_to c48
      refine ur_ldA rfl rfl ?_
      refine ur_get rfl hc32 rfl ?_
      refine ur_ldI rfl rfl ?_
      refine ur_aldJV rfl hc36 hn38 (by omega) (fun y51 hx52 => ?_)
      refine ur_ldA rfl rfl ?_
      refine ur_get rfl hc4 rfl ?_
      refine ur_push rfl ?_
      refine ur_binV rfl (fun x53 e54 => ?_)
      refine ur_shJV rfl (fun y55 e56 => ?_)
      refine ur_push rfl ?_
      refine ur_binJV rfl (fun y57 e58 => ?_)
      refine ur_push rfl ?_
      refine ur_cmpJV rfl (fun x59 e60 => ?_)
      refine ur_if1 rfl (fun c61 => ?_) (fun c61 => ?_)
      · have t62 := ne_to c61
        refine ur_push rfl ?_
        exact ur_ret rfl rfl (hQ _ ⟨false, rfl⟩ )
      · have t63 := ne_no c61
        refine ur_push rfl ?_
        refine ur_go rfl ?_
        exact ur_ret rfl rfl (hQ _ ⟨true, rfl⟩ )

set_option maxRecDepth 20000 in
set_option maxHeartbeats 4000000 in
theorem sf_X7_gatherNear {d kc ks : Nat} {h0 : aH} {Q : Option aV → aH → Prop} (hO0 : OK h0) {a1 : Nat} (g1 : 114 ≤ a1) (t1 : tg h0 a1 = (102, 14)) (a2 : Int32) (hQ : ∀ r h', (r = none) → OK h' → un [] h0 h' → Q r h') : uCall Mt (d + 4) 88 [(.inr (.inr (some 41))), (.inr (.inr (some a1))), (.inl a2)] h0 kc ks Q := by
  have l_0 : ((0) : Int32).toInt = 0 := by decide
  have l_1 : ((1) : Int32).toInt = 1 := by decide
  have l_240 : ((240) : Int32).toInt = 240 := by decide
  refine uc_ink [some (.inr (.inr (some 41))), some (.inr (.inr (some a1))), some (.inl a2), none] mt_88 (Nat.le_of_ble_eq_true rfl) rfl ?_
  refine ur_ldA rfl rfl ?_
  refine ur_push rfl ?_
  obtain ⟨f2, f3, hc1, k4⟩ := ok_41 hO0
  refine ur_putV (W := []) (fs' := [(.inr (.inr (some 1))), (.inr (.inr (some 15))), (.inr (.inr (some 8))), (.inr (.inr (some 42))), (.inr (.inr (some 43))), (.inr (.inr (some 44))), (.inl f2), (.inr (.inr (some 45))), (.inr (.inr (some 46))), (.inr (.inr (some 47))), (.inr (.inr (some 48))), (.inr (.inr (some 49))), (.inr (.inr (some 50))), (.inr (.inr (some 51))), (.inl 0)]) rfl hO0 hc1 (Nat.le_of_ble_eq_true rfl) rfl rfl ⟨rfl, _, _, rfl, by omega⟩ rfl (Or.inl rfl) (fun h6 hO6 hu6 d5 hc7 => ?_)
  refine ur_ldA rfl rfl ?_
  obtain ⟨g28, f9, f10, f11, f12, f13, f14, f15, f16, f17, f18, q19, q20, o21, q22, hc8, k23, k24, k25, k26, k27⟩ := hO6.comet (hu6.tm t1 (by decide))
  refine ur_get rfl hc8 rfl ?_
  refine ur_svIk [some (.inr (.inr (some 41))), some (.inr (.inr (some a1))), some (.inl a2), some (.inl f17)] rfl rfl ?_
  have L30 : ∀ (m31 : Nat) (x29 : Int32) (h33 : aH) , OK h33 → un [] h6 h33 → ((-60 ≤ x29.toInt ∧ x29.toInt ≤ 2147483647)) → ((2147483648 - x29.toInt).toNat) < m31 → uRun oX7_gatherNear (uCall Mt (d + 3)) Q 10 ([some (.inr (.inr (some 41))), some (.inr (.inr (some a1))), some (.inl a2), some (.inl x29)], [], h33, kc, ks) := by
    intro m31
    induction m31 with
    | zero => intro x29 h33 hO33 hu33 iv34 mm35; omega
    | succ m31 ih32 =>
      intro x29 h33 hO33 hu33 iv34 mm35
      refine ur_ldI rfl rfl ?_
      refine ur_ldA rfl rfl ?_
      obtain ⟨g56, f37, f38, f39, f40, f41, f42, f43, f44, f45, f46, q47, q48, o49, q50, hc36, k51, k52, k53, k54, k55⟩ := hO33.comet (hu33.tm (hu6.tm t1 (by decide)) (by decide))
      refine ur_get rfl hc36 rfl ?_
      have z57 := any_r x29
      have z58 := any_r f46
      refine ur_if2 rfl (fun c59 => ?_) (fun c59 => ?_)
      · have t60 := lt_to c59
        exact ur_ret0 rfl (hQ _ _ rfl hO33 (hu6.tr hu33))
      · have t61 := lt_no c59
        refine ur_ldA rfl rfl ?_
        refine ur_ldI rfl rfl ?_
        refine ur_inl rfl (rcv_of hc36) (Nat.le_of_ble_eq_true rfl) (Nat.le_of_ble_eq_true rfl) (sf_X2_passOf hO33 g56 (hu33.tm (hu6.tm t1 (by decide)) (by decide)) _ (fun w62 hr63 => ?_))
        obtain ⟨x64, rfl⟩ := hr63
        show uRun _ (uCall Mt _) _ 23 (_, [(.inl x64)], _, _, _)
        refine ur_ldI rfl rfl ?_
        refine ur_binV rfl (fun x65 e66 => ?_)
        have z67 := any_r x64
        have z68 := any_r a2
        refine ur_absV rfl (by show ¬ 9 ≤ 1; decide) (fun x69 t70 e71 => ?_)
        refine ur_push rfl ?_
        refine ur_if2 rfl (fun c72 => ?_) (fun c72 => ?_)
        · have t73 := lt_to c72
          refine ur_incV (fun z => [some (.inr (.inr (some 41))), some (.inr (.inr (some a1))), some (.inl a2), some (.inl z)]) rfl rfl (fun _ => rfl) (fun x74 e75 => ?_)
          have t76 := ti_add e75 (by omega) (by omega)
          refine ur_go rfl ?_
          have z77 := any_r x74
          exact ih32 x74 _ hO33 hu33 (by omega) (by omega)
        · have t78 := lt_no c72
          refine ur_ldA rfl rfl ?_
          obtain ⟨f80, f81, hc79, k82⟩ := ok_41 hO33
          refine ur_get rfl hc79 rfl ?_
          refine ur_ldA rfl rfl ?_
          refine ur_get rfl hc79 rfl ?_
          obtain ⟨xs84, hc83, hn85, he86⟩ := hO33.int (hO33.fix 51 (by decide) rfl)
          refine ur_lenV (m := 121) rfl hc83 hn85 (by decide) (fun x87 t88 => ?_)
          have z89 := any_r f81
          have z90 := any_r x87
          refine ur_if2 rfl (fun c91 => ?_) (fun c91 => ?_)
          · have t92 := lt_to c91
            refine ur_ldA rfl rfl ?_
            refine ur_get rfl hc79 rfl ?_
            refine ur_ldA rfl rfl ?_
            refine ur_get rfl hc79 rfl ?_
            refine ur_ldI rfl rfl ?_
            refine ur_astV (W := []) (m := 121) rfl hO33 hc83 (by decide) hn85 (by omega) (by show -60 ≤ x29.toInt ∧ x29.toInt ≤ 60; omega) (Or.inl rfl) (fun h95 hO95 hu95 d93 hc94 => ?_)
            refine ur_ldA rfl rfl ?_
            refine ur_dup rfl rfl ?_
            refine ur_get rfl ((d93 _ (by decide)).trans hc79) rfl ?_
            refine ur_push rfl ?_
            refine ur_binV rfl (fun x96 e97 => ?_)
            have t98 := ti_add e97 (by omega) (by omega)
            refine ur_putV (W := []) (fs' := [(.inr (.inr (some 1))), (.inr (.inr (some 15))), (.inr (.inr (some 8))), (.inr (.inr (some 42))), (.inr (.inr (some 43))), (.inr (.inr (some 44))), (.inl f80), (.inr (.inr (some 45))), (.inr (.inr (some 46))), (.inr (.inr (some 47))), (.inr (.inr (some 48))), (.inr (.inr (some 49))), (.inr (.inr (some 50))), (.inr (.inr (some 51))), (.inl x96)]) rfl hO95 ((d93 _ (by decide)).trans hc79) (Nat.le_of_ble_eq_true rfl) rfl rfl ⟨rfl, _, _, rfl, by omega⟩ rfl (Or.inl rfl) (fun h100 hO100 hu100 d99 hc101 => ?_)
            refine ur_incV (fun z => [some (.inr (.inr (some 41))), some (.inr (.inr (some a1))), some (.inl a2), some (.inl z)]) rfl rfl (fun _ => rfl) (fun x102 e103 => ?_)
            have t104 := ti_add e103 (by omega) (by omega)
            refine ur_go rfl ?_
            have z105 := any_r x102
            exact ih32 x102 _ hO100 (hu33.tr (hu95.tr hu100)) (by omega) (by omega)
          · have t106 := lt_no c91
            refine ur_go rfl ?_
            refine ur_incV (fun z => [some (.inr (.inr (some 41))), some (.inr (.inr (some a1))), some (.inl a2), some (.inl z)]) rfl rfl (fun _ => rfl) (fun x107 e108 => ?_)
            have t109 := ti_add e108 (by omega) (by omega)
            refine ur_go rfl ?_
            have z110 := any_r x107
            exact ih32 x107 _ hO33 hu33 (by omega) (by omega)
  have z111 := any_r f17
  exact L30 _ f17 _ hO6 un.rf (by omega) (Nat.lt_succ_self _)

set_option maxRecDepth 20000 in
set_option maxHeartbeats 4000000 in
theorem sf_X8_here {d kc ks : Nat} {h0 : aH} {Q : Option aV → aH → Prop} (hO0 : OK h0)  (hQ : ∀ r, (∃ x, r = some (.inl x)) → Q r h0) : uCall Mt (d + 1) 95 [(.inr (.inr (some 5)))] h0 kc ks Q := by
  have l_m1 : ((-1) : Int32).toInt = -1 := by decide
  have l_0 : ((0) : Int32).toInt = 0 := by decide
  refine uc_ink [some (.inr (.inr (some 5)))] mt_95 (Nat.le_of_ble_eq_true rfl) rfl ?_
  refine ur_ldA rfl rfl ?_
  obtain ⟨f2, f3, f4, f5, hc1, k6⟩ := ok_5 hO0
  refine ur_get rfl hc1 rfl ?_
  refine ur_if1 rfl (fun c7 => ?_) (fun c7 => ?_)
  · have t8 := lt_to c7
    refine ur_push rfl ?_
    exact ur_ret rfl rfl (hQ _ ⟨_, rfl⟩ )
  · have t9 := lt_no c7
    refine ur_ldA rfl rfl ?_
    refine ur_get rfl hc1 rfl ?_
    refine ur_ldA rfl rfl ?_
    refine ur_get rfl hc1 rfl ?_
    have z10 := any_r f3
    have z11 := any_r f2
    refine ur_if2 rfl (fun c12 => ?_) (fun c12 => ?_)
    · have t13 := le_to c12
      refine ur_push rfl ?_
      exact ur_ret rfl rfl (hQ _ ⟨_, rfl⟩ )
    · have t14 := le_no c12
      refine ur_ldA rfl rfl ?_
      refine ur_get rfl hc1 rfl ?_
      refine ur_ldA rfl rfl ?_
      refine ur_get rfl hc1 rfl ?_
      obtain ⟨xs16, hc15, hn17, he18⟩ := hO0.int (hO0.fix 6 (by decide) rfl)
      refine ur_aldV rfl hc15 hn17 (by omega) (fun x19 hx20 => ?_)
      refine ur_go rfl ?_
      exact ur_ret rfl rfl (hQ _ ⟨_, rfl⟩ )

set_option maxRecDepth 20000 in
set_option maxHeartbeats 4000000 in
theorem sf_X8_take {d kc ks : Nat} {h0 : aH} {Q : Option aV → aH → Prop} (hO0 : OK h0) (a1 : Int32) (hQ : ∀ r h', (∃ q, r = some (.inl (bi q))) → OK h' → un [] h0 h' → Q r h') : uCall Mt (d + 2) 96 [(.inr (.inr (some 5))), (.inl a1)] h0 kc ks Q := by
  have l_0 : ((0) : Int32).toInt = 0 := by decide
  have l_1 : ((1) : Int32).toInt = 1 := by decide
  refine uc_ink [some (.inr (.inr (some 5))), some (.inl a1)] mt_96 (Nat.le_of_ble_eq_true rfl) rfl ?_
  refine ur_ldA rfl rfl ?_
  obtain ⟨f2, f3, f4, f5, hc1, k6⟩ := ok_5 hO0
  refine ur_inl rfl (rcv_of hc1) (Nat.le_of_ble_eq_true rfl) (Nat.le_of_ble_eq_true rfl) (sf_X8_here hO0  (fun w7 hr8 => ?_))
  obtain ⟨x9, rfl⟩ := hr8
  show uRun _ (uCall Mt _) _ 4 (_, [(.inl x9)], _, _, _)
  refine ur_ldI rfl rfl ?_
  have z10 := any_r x9
  have z11 := any_r a1
  refine ur_if2 rfl (fun c12 => ?_) (fun c12 => ?_)
  · have t13 := eq_to c12
    refine ur_ldA rfl rfl ?_
    refine ur_dup rfl rfl ?_
    refine ur_get rfl hc1 rfl ?_
    refine ur_push rfl ?_
    refine ur_binV rfl (fun x14 e15 => ?_)
    have z16 := any_r f3
    refine ur_putV (W := []) (fs' := [(.inr (.inr (some 6))), (.inl f2), (.inl x14), (.inl f4), (.inr (.inr (some 7))), (.inl f5)]) rfl hO0 hc1 (Nat.le_of_ble_eq_true rfl) rfl rfl ⟨rfl, _, _, _, _, rfl, by omega⟩ rfl (Or.inl rfl) (fun h18 hO18 hu18 d17 hc19 => ?_)
    refine ur_push rfl ?_
    exact ur_ret rfl rfl (hQ _ _ ⟨true, rfl⟩ hO18 hu18)
  · have t20 := eq_no c12
    refine ur_push rfl ?_
    exact ur_ret rfl rfl (hQ _ _ ⟨false, rfl⟩ hO0 un.rf)

set_option maxRecDepth 20000 in
set_option maxHeartbeats 4000000 in
theorem sf_X8_isGoingOn {d kc ks : Nat} {h0 : aH} {Q : Option aV → aH → Prop} (hO0 : OK h0) (a1 : Int32) (hQ : ∀ r h', (∃ q, r = some (.inl (bi q))) → OK h' → un [] h0 h' → Q r h') : uCall Mt (d + 3) 97 [(.inr (.inr (some 5))), (.inl a1)] h0 kc ks Q := by
  have l_m1 : ((-1) : Int32).toInt = -1 := by decide
  have l_0 : ((0) : Int32).toInt = 0 := by decide
  have l_1 : ((1) : Int32).toInt = 1 := by decide
  refine uc_ink [some (.inr (.inr (some 5))), some (.inl a1)] mt_97 (Nat.le_of_ble_eq_true rfl) rfl ?_
  refine ur_ldA rfl rfl ?_
  obtain ⟨f2, f3, f4, f5, hc1, k6⟩ := ok_5 hO0
  refine ur_get rfl hc1 rfl ?_
  refine ur_push rfl ?_
  refine ur_if2 rfl (fun c7 => ?_) (fun c7 => ?_)
  · have t8 := ne_to c7
    refine ur_push rfl ?_
    exact ur_ret rfl rfl (hQ _ _ ⟨false, rfl⟩ hO0 un.rf)
  · have t9 := ne_no c7
    refine ur_ldA rfl rfl ?_
    refine ur_ldI rfl rfl ?_
    refine ur_inl rfl (rcv_of hc1) (Nat.le_of_ble_eq_true rfl) (Nat.le_of_ble_eq_true rfl) (sf_X8_take hO0 _ (fun w10 h12 hr11 hO12 hv12 => ?_))
    have hu12 := hv12
    obtain ⟨b13, rfl⟩ := hr11
    show uRun _ (uCall Mt _) _ 13 (_, [(.inl (bi b13))], _, _, _)
    refine ur_eqB rfl (fun c14 => ?_) (fun c14 => ?_)
    · refine ur_push rfl ?_
      exact ur_ret rfl rfl (hQ _ _ ⟨false, rfl⟩ hO12 hu12)
    · refine ur_push rfl ?_
      refine ur_go rfl ?_
      exact ur_ret rfl rfl (hQ _ _ ⟨true, rfl⟩ hO12 hu12)

set_option maxRecDepth 20000 in
set_option maxHeartbeats 4000000 in
theorem sf_X8_add {d kc ks : Nat} {h0 : aH} {Q : Option aV → aH → Prop} (hO0 : OK h0) (a1 : Int32) (a2 : Int32) (hQ : ∀ r h', (r = none) → OK h' → un [] h0 h' → Q r h') : uCall Mt (d + 2) 98 [(.inr (.inr (some 5))), (.inl a1), (.inl a2)] h0 kc ks Q := by
  have l_1 : ((1) : Int32).toInt = 1 := by decide
  refine uc_ink [some (.inr (.inr (some 5))), some (.inl a1), some (.inl a2)] mt_98 (Nat.le_of_ble_eq_true rfl) rfl ?_
  refine ur_ldA rfl rfl ?_
  obtain ⟨f2, f3, f4, f5, hc1, k6⟩ := ok_5 hO0
  refine ur_get rfl hc1 rfl ?_
  refine ur_ldA rfl rfl ?_
  refine ur_get rfl hc1 rfl ?_
  obtain ⟨xs8, hc7, hn9, he10⟩ := hO0.int (hO0.fix 7 (by decide) rfl)
  refine ur_lenV (m := 128) rfl hc7 hn9 (by decide) (fun x11 t12 => ?_)
  have z13 := any_r f5
  have z14 := any_r x11
  refine ur_if2 rfl (fun c15 => ?_) (fun c15 => ?_)
  · have t16 := lt_to c15
    refine ur_ldA rfl rfl ?_
    refine ur_get rfl hc1 rfl ?_
    refine ur_ldA rfl rfl ?_
    refine ur_get rfl hc1 rfl ?_
    refine ur_ldI rfl rfl ?_
    refine ur_ldI rfl rfl ?_
    refine ur_inl rfl rfl (Nat.le_of_ble_eq_true rfl) (Nat.le_of_ble_eq_true rfl) (sf_X9_step _ _ (fun w17 hr18 => ?_))
    obtain ⟨x19, rfl⟩ := hr18
    show uRun _ (uCall Mt _) _ 26 (_, [(.inl x19), (.inl f5), (.inr (.inr (some 7)))], _, _, _)
    refine ur_astV (W := []) (m := 128) rfl hO0 hc7 (by decide) hn9 (by omega) (any_r _) (Or.inl rfl) (fun h22 hO22 hu22 d20 hc21 => ?_)
    refine ur_ldA rfl rfl ?_
    refine ur_dup rfl rfl ?_
    refine ur_get rfl ((d20 _ (by decide)).trans hc1) rfl ?_
    refine ur_push rfl ?_
    refine ur_binV rfl (fun x23 e24 => ?_)
    have t25 := ti_add e24 (by omega) (by omega)
    refine ur_putV (W := []) (fs' := [(.inr (.inr (some 6))), (.inl f2), (.inl f3), (.inl f4), (.inr (.inr (some 7))), (.inl x23)]) rfl hO22 ((d20 _ (by decide)).trans hc1) (Nat.le_of_ble_eq_true rfl) rfl rfl ⟨rfl, _, _, _, _, rfl, by omega⟩ rfl (Or.inl rfl) (fun h27 hO27 hu27 d26 hc28 => ?_)
    exact ur_ret0 rfl (hQ _ _ rfl hO27 (hu22.tr hu27))
  · have t29 := lt_no c15
    exact ur_ret0 rfl (hQ _ _ rfl hO0 un.rf)

set_option maxRecDepth 20000 in
set_option maxHeartbeats 4000000 in
theorem sf_X8_failHere {d kc ks : Nat} {h0 : aH} {Q : Option aV → aH → Prop} (hO0 : OK h0)  (hQ : ∀ r h', (r = none) → OK h' → un [] h0 h' → Q r h') : uCall Mt (d + 1) 99 [(.inr (.inr (some 5)))] h0 kc ks Q := by
  have l_m1 : ((-1) : Int32).toInt = -1 := by decide
  refine uc_ink [some (.inr (.inr (some 5)))] mt_99 (Nat.le_of_ble_eq_true rfl) rfl ?_
  refine ur_ldA rfl rfl ?_
  obtain ⟨f2, f3, f4, f5, hc1, k6⟩ := ok_5 hO0
  refine ur_get rfl hc1 rfl ?_
  refine ur_push rfl ?_
  refine ur_if2 rfl (fun c7 => ?_) (fun c7 => ?_)
  · have t8 := ne_to c7
    exact ur_ret0 rfl (hQ _ _ rfl hO0 un.rf)
  · have t9 := ne_no c7
    refine ur_ldA rfl rfl ?_
    refine ur_ldA rfl rfl ?_
    refine ur_get rfl hc1 rfl ?_
    refine ur_putV (W := []) (fs' := [(.inr (.inr (some 6))), (.inl f2), (.inl f3), (.inl f3), (.inr (.inr (some 7))), (.inl f5)]) rfl hO0 hc1 (Nat.le_of_ble_eq_true rfl) rfl rfl ⟨rfl, _, _, _, _, rfl, by omega⟩ rfl (Or.inl rfl) (fun h11 hO11 hu11 d10 hc12 => ?_)
    exact ur_ret0 rfl (hQ _ _ rfl hO11 hu11)

set_option maxRecDepth 20000 in
set_option maxHeartbeats 4000000 in
theorem sf_X8_readNumber {d kc ks : Nat} {h0 : aH} {Q : Option aV → aH → Prop} (hO0 : OK h0)  (hQ : ∀ r h', (r = none) → OK h' → un [] h0 h' → Q r h') : uCall Mt (d + 3) 107 [(.inr (.inr (some 5)))] h0 kc ks Q := by
  have l_0 : ((0) : Int32).toInt = 0 := by decide
  have l_1 : ((1) : Int32).toInt = 1 := by decide
  have l_6 : ((6) : Int32).toInt = 6 := by decide
  have l_10 : ((10) : Int32).toInt = 10 := by decide
  have l_48 : ((48) : Int32).toInt = 48 := by decide
  have l_57 : ((57) : Int32).toInt = 57 := by decide
  refine uc_ink [some (.inr (.inr (some 5))), none, none] mt_107 (Nat.le_of_ble_eq_true rfl) rfl ?_
  refine ur_push rfl ?_
  refine ur_svIk [some (.inr (.inr (some 5))), some (.inl 0), none] rfl rfl ?_
  refine ur_push rfl ?_
  refine ur_svIk [some (.inr (.inr (some 5))), some (.inl 0), some (.inl 0)] rfl rfl ?_
  have L3 : ∀ (m4 : Nat) (x1 : Int32) (x2 : Int32) (h6 : aH) , OK h6 → un [] h0 h6 → ((0 ≤ x2.toInt ∧ x2.toInt ≤ 2147483647)) → ((2147483648 - x2.toInt).toNat) < m4 → uRun oX8_readNumber (uCall Mt (d + 2)) Q 4 ([some (.inr (.inr (some 5))), some (.inl x1), some (.inl x2)], [], h6, kc, ks) := by
    intro m4
    induction m4 with
    | zero => intro x1 x2 h6 hO6 hu6 iv7 mm8; omega
    | succ m4 ih5 =>
      intro x1 x2 h6 hO6 hu6 iv7 mm8
      refine ur_ldI rfl rfl ?_
      refine ur_push rfl ?_
      refine ur_if2 rfl (fun c9 => ?_) (fun c9 => ?_)
      · have t10 := le_to c9
        refine ur_ldA rfl rfl ?_
        refine ur_push rfl ?_
        refine ur_ldI rfl rfl ?_
        obtain ⟨f12, f13, f14, f15, hc11, k16⟩ := ok_5 hO6
        refine ur_inl rfl (rcv_of hc11) (Nat.le_of_ble_eq_true rfl) (Nat.le_of_ble_eq_true rfl) (sf_X8_add hO6 _ _ (fun w17 h19 hr18 hO19 hv19 => ?_))
        have hu19 := hv19
        subst hr18
        show uRun _ (uCall Mt _) _ 59 (_, [], _, _, _)
        exact ur_ret0 rfl (hQ _ _ rfl hO19 (hu6.tr hu19))
      · have t20 := le_no c9
        refine ur_ldA rfl rfl ?_
        obtain ⟨f22, f23, f24, f25, hc21, k26⟩ := ok_5 hO6
        refine ur_inl rfl (rcv_of hc21) (Nat.le_of_ble_eq_true rfl) (Nat.le_of_ble_eq_true rfl) (sf_X8_here hO6  (fun w27 hr28 => ?_))
        obtain ⟨x29, rfl⟩ := hr28
        show uRun _ (uCall Mt _) _ 14 (_, [(.inl x29)], _, _, _)
        refine ur_push rfl ?_
        refine ur_push rfl ?_
        refine ur_callv rfl rfl (Nat.le_of_ble_eq_true rfl) (Nat.le_of_ble_eq_true rfl) rfl (sp_within _ _ _ _ _) ?_
        refine ur_eqB rfl (fun c32 => ?_) (fun c32 => ?_)
        · have t33 := wi_noL c32 l_48 l_57
          refine ur_ldA rfl rfl ?_
          refine ur_push rfl ?_
          refine ur_ldI rfl rfl ?_
          refine ur_inl rfl (rcv_of hc21) (Nat.le_of_ble_eq_true rfl) (Nat.le_of_ble_eq_true rfl) (sf_X8_add hO6 _ _ (fun w34 h36 hr35 hO36 hv36 => ?_))
          have hu36 := hv36
          subst hr35
          show uRun _ (uCall Mt _) _ 59 (_, [], _, _, _)
          exact ur_ret0 rfl (hQ _ _ rfl hO36 (hu6.tr hu36))
        · have t37 := wi_toL c32 l_48 l_57
          refine ur_ldI rfl rfl ?_
          refine ur_push rfl ?_
          refine ur_binV rfl (fun x38 e39 => ?_)
          have z40 := any_r x1
          refine ur_ldA rfl rfl ?_
          refine ur_inl rfl (rcv_of hc21) (Nat.le_of_ble_eq_true rfl) (Nat.le_of_ble_eq_true rfl) (sf_X8_here hO6  (fun w41 hr42 => ?_))
          obtain ⟨x43, rfl⟩ := hr42
          show uRun _ (uCall Mt _) _ 32 (_, [(.inl x43), (.inl x38)], _, _, _)
          refine ur_binV rfl (fun x44 e45 => ?_)
          have z46 := any_r x38
          have z47 := any_r x43
          refine ur_push rfl ?_
          refine ur_binV rfl (fun x48 e49 => ?_)
          have z50 := any_r x44
          refine ur_svIk [some (.inr (.inr (some 5))), some (.inl x48), some (.inl x2)] rfl rfl ?_
          refine ur_ldA rfl rfl ?_
          refine ur_dup rfl rfl ?_
          refine ur_get rfl hc21 rfl ?_
          refine ur_push rfl ?_
          refine ur_binV rfl (fun x51 e52 => ?_)
          have z53 := any_r f23
          refine ur_putV (W := []) (fs' := [(.inr (.inr (some 6))), (.inl f22), (.inl x51), (.inl f24), (.inr (.inr (some 7))), (.inl f25)]) rfl hO6 hc21 (Nat.le_of_ble_eq_true rfl) rfl rfl ⟨rfl, _, _, _, _, rfl, by omega⟩ rfl (Or.inl rfl) (fun h55 hO55 hu55 d54 hc56 => ?_)
          refine ur_incV (fun z => [some (.inr (.inr (some 5))), some (.inl x48), some (.inl z)]) rfl rfl (fun _ => rfl) (fun x57 e58 => ?_)
          have z59 := any_r x2
          have t60 := ti_add e58 (by omega) (by omega)
          refine ur_go rfl ?_
          have z61 := any_r x57
          exact ih5 x48 x57 _ hO55 (hu6.tr hu55) (by omega) (by omega)
  exact L3 _ 0 0 _ hO0 un.rf (by omega) (Nat.lt_succ_self _)

set_option maxRecDepth 20000 in
set_option maxHeartbeats 4000000 in
theorem sf_X11_drawn {d kc ks : Nat} {h0 : aH} {Q : Option aV → aH → Prop} (a0 : Int32) (hQ : ∀ r, (∃ x, r = some (.inl x)) → Q r h0) : uCall Mt (d + 1) 169 [(.inl a0)] h0 kc ks Q := by
  have l_12345 : ((12345) : Int32).toInt = 12345 := by decide
  have l_1103515245 : ((1103515245) : Int32).toInt = 1103515245 := by decide
  refine uc_ink [some (.inl a0)] mt_169 (Nat.le_of_ble_eq_true rfl) rfl ?_
  refine ur_ldI rfl rfl ?_
  refine ur_push rfl ?_
  refine ur_binV rfl (fun x1 e2 => ?_)
  have z3 := any_r a0
  refine ur_push rfl ?_
  refine ur_binV rfl (fun x4 e5 => ?_)
  have z6 := any_r x1
  exact ur_ret rfl rfl (hQ _ ⟨_, rfl⟩ )

set_option maxRecDepth 20000 in
set_option maxHeartbeats 4000000 in
theorem sf_X11_drawnNode {d kc ks : Nat} {h0 : aH} {Q : Option aV → aH → Prop} (a0 : Int32) (hQ : ∀ r, (∃ x, r = some (.inl x)) → Q r h0) : uCall Mt (d + 1) 170 [(.inl a0)] h0 kc ks Q := by
  have l_8 : ((8) : Int32).toInt = 8 := by decide
  have l_360 : ((360) : Int32).toInt = 360 := by decide
  refine uc_ink [some (.inl a0)] mt_170 (Nat.le_of_ble_eq_true rfl) rfl ?_
  refine ur_ldI rfl rfl ?_
  refine ur_push rfl ?_
  refine ur_binV rfl (fun x1 e2 => ?_)
  refine ur_push rfl ?_
  refine ur_divV rfl (by decide) (fun x3 e4 => ?_)
  have z5 := any_r x1
  have t6 : 0 ≤ x1.toInt → x3.toInt = x1.toInt % 360 := fun q => ti_rem e4 l_360 (by decide) q
  exact ur_ret rfl rfl (hQ _ ⟨_, rfl⟩ )

set_option maxRecDepth 20000 in
set_option maxHeartbeats 4000000 in
theorem sf_X11_drawnReach {d kc ks : Nat} {h0 : aH} {Q : Option aV → aH → Prop} (a0 : Int32) (hQ : ∀ r, (∃ x, r = some (.inl x)) → Q r h0) : uCall Mt (d + 1) 171 [(.inl a0)] h0 kc ks Q := by
  have l_5 : ((5) : Int32).toInt = 5 := by decide
  have l_8 : ((8) : Int32).toInt = 8 := by decide
  have l_95 : ((95) : Int32).toInt = 95 := by decide
  refine uc_ink [some (.inl a0)] mt_171 (Nat.le_of_ble_eq_true rfl) rfl ?_
  refine ur_push rfl ?_
  refine ur_ldI rfl rfl ?_
  refine ur_push rfl ?_
  refine ur_binV rfl (fun x1 e2 => ?_)
  refine ur_push rfl ?_
  refine ur_divV rfl (by decide) (fun x3 e4 => ?_)
  have z5 := any_r x1
  have t6 : 0 ≤ x1.toInt → x3.toInt = x1.toInt % 95 := fun q => ti_rem e4 l_95 (by decide) q
  refine ur_binV rfl (fun x7 e8 => ?_)
  have z9 := any_r x3
  exact ur_ret rfl rfl (hQ _ ⟨_, rfl⟩ )

set_option maxRecDepth 20000 in
set_option maxHeartbeats 4000000 in
theorem sf_X11_isNear {d kc ks : Nat} {h0 : aH} {Q : Option aV → aH → Prop} (a0 : Int32) (a1 : Int32) (a2 : Int32) (hQ : ∀ r, (∃ q, r = some (.inl (bi q))) → Q r h0) : uCall Mt (d + 2) 172 [(.inl a0), (.inl a1), (.inl a2)] h0 kc ks Q := by
  have l_0 : ((0) : Int32).toInt = 0 := by decide
  have l_1 : ((1) : Int32).toInt = 1 := by decide
  refine uc_ink [some (.inl a0), some (.inl a1), some (.inl a2)] mt_172 (Nat.le_of_ble_eq_true rfl) rfl ?_
  refine ur_ldI rfl rfl ?_
  refine ur_push rfl ?_
  refine ur_inl rfl rfl (Nat.le_of_ble_eq_true rfl) (Nat.le_of_ble_eq_true rfl) (sf_X11_apart _ _ (fun w1 hr2 => ?_))
  obtain ⟨x3, rfl⟩ := hr2
  show uRun _ (uCall Mt _) _ 5 (_, [(.inl x3)], _, _, _)
  refine ur_ldI rfl rfl ?_
  have z4 := any_r x3
  have z5 := any_r a2
  refine ur_if2 rfl (fun c6 => ?_) (fun c6 => ?_)
  · have t7 := lt_to c6
    refine ur_push rfl ?_
    exact ur_ret rfl rfl (hQ _ ⟨false, rfl⟩ )
  · have t8 := lt_no c6
    refine ur_ldI rfl rfl ?_
    refine ur_absV rfl (by show ¬ 9 ≤ 1; decide) (fun x9 t10 e11 => ?_)
    refine ur_ldI rfl rfl ?_
    have z12 := any_r x9
    refine ur_if2 rfl (fun c13 => ?_) (fun c13 => ?_)
    · have t14 := lt_to c13
      refine ur_push rfl ?_
      exact ur_ret rfl rfl (hQ _ ⟨false, rfl⟩ )
    · have t15 := lt_no c13
      refine ur_push rfl ?_
      refine ur_go rfl ?_
      exact ur_ret rfl rfl (hQ _ ⟨true, rfl⟩ )

set_option maxRecDepth 20000 in
set_option maxHeartbeats 4000000 in
theorem sf_X11_thousandthsNear {d kc ks : Nat} {h0 : aH} {Q : Option aV → aH → Prop} (a0 : Int32) (a1 : Int32) (a2 : Int32) (hQ : ∀ r, (∃ x, r = some (.inl x)) → Q r h0) : uCall Mt (d + 3) 168 [(.inl a0), (.inl a1), (.inl a2)] h0 kc ks Q := by
  have l_0 : ((0) : Int32).toInt = 0 := by decide
  have l_1 : ((1) : Int32).toInt = 1 := by decide
  have l_1000 : ((1000) : Int32).toInt = 1000 := by decide
  refine uc_ink [some (.inl a0), some (.inl a1), some (.inl a2), none, none, none, none, none, none] mt_168 (Nat.le_of_ble_eq_true rfl) rfl ?_
  refine ur_ldI rfl rfl ?_
  refine ur_if1 rfl (fun c1 => ?_) (fun c1 => ?_)
  · have t2 := lt_to c1
    refine ur_ldI rfl rfl ?_
    refine ur_svIk [some (.inl a0), some (.inl a1), some (.inl a2), some (.inl a1), none, none, none, none, none] rfl rfl ?_
    refine ur_push rfl ?_
    refine ur_svIk [some (.inl a0), some (.inl a1), some (.inl a2), some (.inl a1), some (.inl 0), none, none, none, none] rfl rfl ?_
    refine ur_push rfl ?_
    refine ur_svIk [some (.inl a0), some (.inl a1), some (.inl a2), some (.inl a1), some (.inl 0), some (.inl 0), none, none, none] rfl rfl ?_
    have L9 : ∀ (m10 : Nat) (x3 : Int32) (x4 : Int32) (x5 : Int32) (u6 : Option aV) (u7 : Option aV) (u8 : Option aV) , ((0 ≤ x5.toInt ∧ x5.toInt ≤ 2147483647)) → ((2147483648 - x5.toInt).toNat) < m10 → uRun oX11_thousandthsNear (uCall Mt (d + 2)) Q 14 ([some (.inl a0), some (.inl a1), some (.inl a2), some (.inl x3), some (.inl x4), some (.inl x5), u6, u7, u8], [], h0, kc, ks) := by
      intro m10
      induction m10 with
      | zero => intro x3 x4 x5 u6 u7 u8 iv12 mm13; omega
      | succ m10 ih11 =>
        intro x3 x4 x5 u6 u7 u8 iv12 mm13
        refine ur_ldI rfl rfl ?_
        refine ur_ldI rfl rfl ?_
        have z14 := any_r x5
        have z15 := any_r a2
        refine ur_if2 rfl (fun c16 => ?_) (fun c16 => ?_)
        · have t17 := le_to c16
          refine ur_push rfl ?_
          refine ur_ldI rfl rfl ?_
          refine ur_binV rfl (fun x18 e19 => ?_)
          have z20 := any_r x4
          refine ur_ldI rfl rfl ?_
          refine ur_divV rfl (nz_of (by omega)) (fun x21 e22 => ?_)
          have z23 := any_r x18
          exact ur_ret rfl rfl (hQ _ ⟨_, rfl⟩ )
        · have t24 := le_no c16
          refine ur_ldI rfl rfl ?_
          refine ur_inl rfl rfl (Nat.le_of_ble_eq_true rfl) (Nat.le_of_ble_eq_true rfl) (sf_X11_drawn _ (fun w25 hr26 => ?_))
          obtain ⟨x27, rfl⟩ := hr26
          show uRun _ (uCall Mt _) _ 24 (_, [(.inl x27)], _, _, _)
          refine ur_svIk [some (.inl a0), some (.inl a1), some (.inl a2), some (.inl x27), some (.inl x4), some (.inl x5), u6, u7, u8] rfl rfl ?_
          refine ur_ldI rfl rfl ?_
          refine ur_inl rfl rfl (Nat.le_of_ble_eq_true rfl) (Nat.le_of_ble_eq_true rfl) (sf_X11_drawnNode _ (fun w28 hr29 => ?_))
          obtain ⟨x30, rfl⟩ := hr29
          show uRun _ (uCall Mt _) _ 29 (_, [(.inl x30)], _, _, _)
          refine ur_svIk [some (.inl a0), some (.inl a1), some (.inl a2), some (.inl x27), some (.inl x4), some (.inl x5), some (.inl x30), u7, u8] rfl rfl ?_
          refine ur_ldI rfl rfl ?_
          refine ur_inl rfl rfl (Nat.le_of_ble_eq_true rfl) (Nat.le_of_ble_eq_true rfl) (sf_X11_drawn _ (fun w31 hr32 => ?_))
          obtain ⟨x33, rfl⟩ := hr32
          show uRun _ (uCall Mt _) _ 35 (_, [(.inl x33)], _, _, _)
          refine ur_svIk [some (.inl a0), some (.inl a1), some (.inl a2), some (.inl x33), some (.inl x4), some (.inl x5), some (.inl x30), u7, u8] rfl rfl ?_
          refine ur_ldI rfl rfl ?_
          refine ur_inl rfl rfl (Nat.le_of_ble_eq_true rfl) (Nat.le_of_ble_eq_true rfl) (sf_X11_drawnReach _ (fun w34 hr35 => ?_))
          obtain ⟨x36, rfl⟩ := hr35
          show uRun _ (uCall Mt _) _ 40 (_, [(.inl x36)], _, _, _)
          refine ur_svIk [some (.inl a0), some (.inl a1), some (.inl a2), some (.inl x33), some (.inl x4), some (.inl x5), some (.inl x30), some (.inl x36), u8] rfl rfl ?_
          refine ur_ldI rfl rfl ?_
          refine ur_inl rfl rfl (Nat.le_of_ble_eq_true rfl) (Nat.le_of_ble_eq_true rfl) (sf_X11_drawn _ (fun w37 hr38 => ?_))
          obtain ⟨x39, rfl⟩ := hr38
          show uRun _ (uCall Mt _) _ 46 (_, [(.inl x39)], _, _, _)
          refine ur_svIk [some (.inl a0), some (.inl a1), some (.inl a2), some (.inl x39), some (.inl x4), some (.inl x5), some (.inl x30), some (.inl x36), u8] rfl rfl ?_
          refine ur_ldI rfl rfl ?_
          refine ur_inl rfl rfl (Nat.le_of_ble_eq_true rfl) (Nat.le_of_ble_eq_true rfl) (sf_X11_drawnNode _ (fun w40 hr41 => ?_))
          obtain ⟨x42, rfl⟩ := hr41
          show uRun _ (uCall Mt _) _ 51 (_, [(.inl x42)], _, _, _)
          refine ur_svIk [some (.inl a0), some (.inl a1), some (.inl a2), some (.inl x39), some (.inl x4), some (.inl x5), some (.inl x30), some (.inl x36), some (.inl x42)] rfl rfl ?_
          refine ur_ldI rfl rfl ?_
          refine ur_inl rfl rfl (Nat.le_of_ble_eq_true rfl) (Nat.le_of_ble_eq_true rfl) (sf_X11_drawn _ (fun w43 hr44 => ?_))
          obtain ⟨x45, rfl⟩ := hr44
          show uRun _ (uCall Mt _) _ 57 (_, [(.inl x45)], _, _, _)
          refine ur_svIk [some (.inl a0), some (.inl a1), some (.inl a2), some (.inl x45), some (.inl x4), some (.inl x5), some (.inl x30), some (.inl x36), some (.inl x42)] rfl rfl ?_
          refine ur_ldI rfl rfl ?_
          refine ur_ldI rfl rfl ?_
          refine ur_binV rfl (fun x46 e47 => ?_)
          have z48 := any_r x30
          have z49 := any_r x42
          refine ur_ldI rfl rfl ?_
          refine ur_ldI rfl rfl ?_
          refine ur_inl rfl rfl (Nat.le_of_ble_eq_true rfl) (Nat.le_of_ble_eq_true rfl) (sf_X11_drawnReach _ (fun w50 hr51 => ?_))
          obtain ⟨x52, rfl⟩ := hr51
          show uRun _ (uCall Mt _) _ 69 (_, [(.inl x52), (.inl x36), (.inl x46)], _, _, _)
          refine ur_binV rfl (fun x53 e54 => ?_)
          have z55 := any_r x36
          have z56 := any_r x52
          refine ur_ldI rfl rfl ?_
          refine ur_inl rfl rfl (Nat.le_of_ble_eq_true rfl) (Nat.le_of_ble_eq_true rfl) (sf_X11_isNear _ _ _ (fun w57 hr58 => ?_))
          obtain ⟨b59, rfl⟩ := hr58
          show uRun _ (uCall Mt _) _ 74 (_, [(.inl (bi b59))], _, _, _)
          refine ur_eqB rfl (fun c60 => ?_) (fun c60 => ?_)
          · refine ur_incV (fun z => [some (.inl a0), some (.inl a1), some (.inl a2), some (.inl x45), some (.inl x4), some (.inl z), some (.inl x30), some (.inl x36), some (.inl x42)]) rfl rfl (fun _ => rfl) (fun x61 e62 => ?_)
            have t63 := ti_add e62 (by omega) (by omega)
            refine ur_go rfl ?_
            have z64 := any_r x61
            exact ih11 x45 x4 x61 _ _ _ (by omega) (by omega)
          · refine ur_incV (fun z => [some (.inl a0), some (.inl a1), some (.inl a2), some (.inl x45), some (.inl z), some (.inl x5), some (.inl x30), some (.inl x36), some (.inl x42)]) rfl rfl (fun _ => rfl) (fun x65 e66 => ?_)
            have z67 := any_r x4
            refine ur_incV (fun z => [some (.inl a0), some (.inl a1), some (.inl a2), some (.inl x45), some (.inl x65), some (.inl z), some (.inl x30), some (.inl x36), some (.inl x42)]) rfl rfl (fun _ => rfl) (fun x68 e69 => ?_)
            have t70 := ti_add e69 (by omega) (by omega)
            refine ur_go rfl ?_
            have z71 := any_r x68
            exact ih11 x45 x65 x68 _ _ _ (by omega) (by omega)
    exact L9 _ a1 0 0 (none) (none) (none) (by omega) (Nat.lt_succ_self _)
  · have t72 := lt_no c1
    refine ur_push rfl ?_
    exact ur_ret rfl rfl (hQ _ ⟨_, rfl⟩ )

set_option maxRecDepth 20000 in
set_option maxHeartbeats 4000000 in
theorem sf_X7_hasCounted {d kc ks : Nat} {h0 : aH} {Q : Option aV → aH → Prop} (hO0 : OK h0) {a1 : Nat} (t1 : tg h0 a1 = (0, 242)) {a2 : Nat} (g2 : 114 ≤ a2) (t2 : tg h0 a2 = (110, 13)) (a3 : Int32) (a4 : Int32) (hQ : ∀ r, (∃ q, r = some (.inl (bi q))) → Q r h0) : uCall Mt (d + 2) 86 [(.inr (.inr (some 41))), (.inr (.inr (some a1))), (.inr (.inr (some a2))), (.inl a3), (.inl a4)] h0 kc ks Q := by
  have l_m1 : ((-1) : Int32).toInt = -1 := by decide
  have l_0 : ((0) : Int32).toInt = 0 := by decide
  have l_1 : ((1) : Int32).toInt = 1 := by decide
  have l_120 : ((120) : Int32).toInt = 120 := by decide
  have l_240 : ((240) : Int32).toInt = 240 := by decide
  refine uc_ink [some (.inr (.inr (some 41))), some (.inr (.inr (some a1))), some (.inr (.inr (some a2))), some (.inl a3), some (.inl a4), none, none, none] mt_86 (Nat.le_of_ble_eq_true rfl) rfl ?_
  refine ur_push rfl ?_
  refine ur_svIk [some (.inr (.inr (some 41))), some (.inr (.inr (some a1))), some (.inr (.inr (some a2))), some (.inl a3), some (.inl a4), some (.inl 0), none, none] rfl rfl ?_
  have L4 : ∀ (m5 : Nat) (x1 : Int32) (u2 : Option aV) (u3 : Option aV) , ((0 ≤ x1.toInt ∧ x1.toInt ≤ 2147483647)) → ((2147483648 - x1.toInt).toNat) < m5 → uRun oX7_hasCounted (uCall Mt (d + 1)) Q 3 ([some (.inr (.inr (some 41))), some (.inr (.inr (some a1))), some (.inr (.inr (some a2))), some (.inl a3), some (.inl a4), some (.inl x1), u2, u3], [], h0, kc, ks) := by
    intro m5
    induction m5 with
    | zero => intro x1 u2 u3 iv7 mm8; omega
    | succ m5 ih6 =>
      intro x1 u2 u3 iv7 mm8
      refine ur_ldI rfl rfl ?_
      refine ur_ldA rfl rfl ?_
      obtain ⟨g25, f10, f11, f12, f13, f14, f15, f16, f17, f18, o22, f19, f20, f21, hc9, k23, k24⟩ := hO0.word t2
      refine ur_get rfl hc9 rfl ?_
      have z26 := any_r x1
      have z27 := any_r f19
      refine ur_if2 rfl (fun c28 => ?_) (fun c28 => ?_)
      · have t29 := le_to c28
        refine ur_push rfl ?_
        exact ur_ret rfl rfl (hQ _ ⟨false, rfl⟩ )
      · have t30 := le_no c28
        refine ur_ldA rfl rfl ?_
        refine ur_ldI rfl rfl ?_
        refine ur_ldI rfl rfl ?_
        refine ur_inl rfl (rcv_of hc9) (Nat.le_of_ble_eq_true rfl) (Nat.le_of_ble_eq_true rfl) (sf_X10_movedFrom hO0 g25 t2 _ _ (fun w31 hr32 => ?_))
        obtain ⟨x33, rfl, t34⟩ := hr32
        show uRun _ (uCall Mt _) _ 20 (_, [(.inl x33)], _, _, _)
        refine ur_ldI rfl rfl ?_
        refine ur_binV rfl (fun x35 e36 => ?_)
        have z37 := any_r x33
        have z38 := any_r a3
        refine ur_push rfl ?_
        refine ur_binV rfl (fun x39 e40 => ?_)
        have z41 := any_r x35
        refine ur_push rfl ?_
        refine ur_maxV rfl (by show ¬ 9 ≤ 2; decide) (fun x42 t43 e44 => ?_)
        refine ur_svIk [some (.inr (.inr (some 41))), some (.inr (.inr (some a1))), some (.inr (.inr (some a2))), some (.inl a3), some (.inl a4), some (.inl x1), some (.inl x42), u3] rfl rfl ?_
        refine ur_ldA rfl rfl ?_
        refine ur_ldI rfl rfl ?_
        refine ur_ldI rfl rfl ?_
        refine ur_inl rfl (rcv_of hc9) (Nat.le_of_ble_eq_true rfl) (Nat.le_of_ble_eq_true rfl) (sf_X10_movedTo hO0 g25 t2 _ _ (fun w45 hr46 => ?_))
        obtain ⟨x47, rfl, t48⟩ := hr46
        show uRun _ (uCall Mt _) _ 39 (_, [(.inl x47)], _, _, _)
        refine ur_ldI rfl rfl ?_
        refine ur_binV rfl (fun x49 e50 => ?_)
        have z51 := any_r x47
        refine ur_push rfl ?_
        refine ur_binV rfl (fun x52 e53 => ?_)
        have z54 := any_r x49
        refine ur_push rfl ?_
        refine ur_minV rfl (by show ¬ 9 ≤ 2; decide) (fun x55 t56 e57 => ?_)
        refine ur_svIk [some (.inr (.inr (some 41))), some (.inr (.inr (some a1))), some (.inr (.inr (some a2))), some (.inl a3), some (.inl a4), some (.inl x1), some (.inl x42), some (.inl x55)] rfl rfl ?_
        refine ur_ldI rfl rfl ?_
        refine ur_ldI rfl rfl ?_
        have z58 := any_r x42
        have z59 := any_r x55
        refine ur_if2 rfl (fun c60 => ?_) (fun c60 => ?_)
        · have t61 := lt_to c60
          refine ur_incV (fun z => [some (.inr (.inr (some 41))), some (.inr (.inr (some a1))), some (.inr (.inr (some a2))), some (.inl a3), some (.inl a4), some (.inl z), some (.inl x42), some (.inl x55)]) rfl rfl (fun _ => rfl) (fun x62 e63 => ?_)
          have t64 := ti_add e63 (by omega) (by omega)
          refine ur_go rfl ?_
          have z65 := any_r x62
          exact ih6 x62 _ _ (by omega) (by omega)
        · have t66 := lt_no c60
          refine ur_ldI rfl rfl ?_
          refine ur_ldA rfl rfl ?_
          obtain ⟨xs68, hc67, hn69, he70⟩ := hO0.int t1
          refine ur_lenV (m := 242) rfl hc67 hn69 (by decide) (fun x71 t72 => ?_)
          have z73 := any_r x71
          refine ur_if2 rfl (fun c74 => ?_) (fun c74 => ?_)
          · have t75 := le_to c74
            exfalso
            omega
          · have t76 := le_no c74
            refine ur_ldI rfl rfl ?_
            refine ur_push rfl ?_
            refine ur_if2 rfl (fun c77 => ?_) (fun c77 => ?_)
            · have t78 := lt_to c77
              exfalso
              omega
            · have t79 := lt_no c77
              refine ur_ldA rfl rfl ?_
              refine ur_ldI rfl rfl ?_
              refine ur_push rfl ?_
              refine ur_binV rfl (fun x80 e81 => ?_)
              have t82 := ti_add e81 (by omega) (by omega)
              refine ur_aldV rfl hc67 hn69 (by omega) (fun x83 hx84 => ?_)
              refine ur_ldA rfl rfl ?_
              refine ur_ldI rfl rfl ?_
              refine ur_aldV rfl hc67 hn69 (by omega) (fun x85 hx86 => ?_)
              have z87 := any_r x83
              have z88 := any_r x85
              refine ur_if2 rfl (fun c89 => ?_) (fun c89 => ?_)
              · have t90 := le_to c89
                refine ur_incV (fun z => [some (.inr (.inr (some 41))), some (.inr (.inr (some a1))), some (.inr (.inr (some a2))), some (.inl a3), some (.inl a4), some (.inl z), some (.inl x42), some (.inl x55)]) rfl rfl (fun _ => rfl) (fun x91 e92 => ?_)
                have t93 := ti_add e92 (by omega) (by omega)
                refine ur_go rfl ?_
                have z94 := any_r x91
                exact ih6 x91 _ _ (by omega) (by omega)
              · have t95 := le_no c89
                refine ur_push rfl ?_
                exact ur_ret rfl rfl (hQ _ ⟨true, rfl⟩ )
  exact L4 _ 0 (none) (none) (by omega) (Nat.lt_succ_self _)

set_option maxRecDepth 20000 in
set_option maxHeartbeats 4000000 in
theorem sf_X7_isFitMoved {d kc ks : Nat} {h0 : aH} {Q : Option aV → aH → Prop} (hO0 : OK h0) {a1 : Nat} (g1 : 114 ≤ a1) (t1 : tg h0 a1 = (110, 13)) (a2 : Int32) (a3 : Int32) (hQ : ∀ r, (∃ q, r = some (.inl (bi q))) → Q r h0) : uCall Mt (d + 3) 85 [(.inr (.inr (some 41))), (.inr (.inr (some a1))), (.inl a2), (.inl a3)] h0 kc ks Q := by
  have l_0 : ((0) : Int32).toInt = 0 := by decide
  have l_1 : ((1) : Int32).toInt = 1 := by decide
  have l_7 : ((7) : Int32).toInt = 7 := by decide
  refine uc_ink [some (.inr (.inr (some 41))), some (.inr (.inr (some a1))), some (.inl a2), some (.inl a3)] mt_85 (Nat.le_of_ble_eq_true rfl) rfl ?_
  refine ur_ldA rfl rfl ?_
  refine ur_ldA rfl rfl ?_
  obtain ⟨f2, f3, hc1, k4⟩ := ok_41 hO0
  refine ur_get rfl hc1 rfl ?_
  refine ur_ldA rfl rfl ?_
  refine ur_ldI rfl rfl ?_
  refine ur_ldI rfl rfl ?_
  refine ur_inl rfl (rcv_of hc1) (Nat.le_of_ble_eq_true rfl) (Nat.le_of_ble_eq_true rfl) (sf_X7_hasCounted hO0 (hO0.fix 47 (by decide) rfl) g1 t1 _ _ (fun w5 hr6 => ?_))
  obtain ⟨b7, rfl⟩ := hr6
  show uRun _ (uCall Mt _) _ 11 (_, [(.inl (bi b7))], _, _, _)
  refine ur_eqB rfl (fun c8 => ?_) (fun c8 => ?_)
  · refine ur_push rfl ?_
    exact ur_ret rfl rfl (hQ _ ⟨false, rfl⟩ )
  · refine ur_ldA rfl rfl ?_
    obtain ⟨g25, f10, f11, f12, f13, f14, f15, f16, f17, f18, o22, f19, f20, f21, hc9, k23, k24⟩ := hO0.word t1
    refine ur_get rfl hc9 rfl ?_
    refine ur_push rfl ?_
    refine ur_if2 rfl (fun c26 => ?_) (fun c26 => ?_)
    · have t27 := ne_to c26
      refine ur_push rfl ?_
      refine ur_go rfl ?_
      exact ur_ret rfl rfl (hQ _ ⟨true, rfl⟩ )
    · have t28 := ne_no c26
      refine ur_ldA rfl rfl ?_
      refine ur_ldA rfl rfl ?_
      refine ur_get rfl hc1 rfl ?_
      refine ur_ldA rfl rfl ?_
      refine ur_ldI rfl rfl ?_
      refine ur_ldI rfl rfl ?_
      refine ur_inl rfl (rcv_of hc1) (Nat.le_of_ble_eq_true rfl) (Nat.le_of_ble_eq_true rfl) (sf_X7_hasCounted hO0 (hO0.fix 48 (by decide) rfl) g25 t1 _ _ (fun w29 hr30 => ?_))
      obtain ⟨b31, rfl⟩ := hr30
      show uRun _ (uCall Mt _) _ 34 (_, [(.inl (bi b31))], _, _, _)
      refine ur_eqB rfl (fun c32 => ?_) (fun c32 => ?_)
      · refine ur_push rfl ?_
        exact ur_ret rfl rfl (hQ _ ⟨false, rfl⟩ )
      · refine ur_push rfl ?_
        refine ur_go rfl ?_
        exact ur_ret rfl rfl (hQ _ ⟨true, rfl⟩ )

set_option maxRecDepth 20000 in
set_option maxHeartbeats 4000000 in
theorem sf_X11_count {d kc ks : Nat} {h0 : aH} {Q : Option aV → aH → Prop} (hO0 : OK h0) (a1 : Int32) (hQ : ∀ r, (∃ x, r = some (.inl x)) → Q r h0) : uCall Mt (d + 1) 165 [(.inr (.inr (some 0))), (.inl a1)] h0 kc ks Q := by
  have l_m1 : ((-1) : Int32).toInt = -1 := by decide
  refine uc_ink [some (.inr (.inr (some 0))), some (.inl a1)] mt_165 (Nat.le_of_ble_eq_true rfl) rfl ?_
  refine ur_ldI rfl rfl ?_
  rcases (show (a1.toInt < 0 ∨ 6 < a1.toInt) ∨ a1.toInt = 0 ∨ a1.toInt = 1 ∨ a1.toInt = 2 ∨ a1.toInt = 3 ∨ a1.toInt = 4 ∨ a1.toInt = 5 ∨ a1.toInt = 6 by omega) with t1 | t1 | t1 | t1 | t1 | t1 | t1 | t1
  · refine ur_tabO rfl (by show a1.toInt < 0 ∨ 0 + 7 ≤ a1.toInt; omega) ?_
    refine ur_push rfl ?_
    exact ur_ret rfl rfl (hQ _ ⟨_, rfl⟩ )
  · refine ur_tabI rfl (by omega) (by rw [t1]; rfl) ?_
    refine ur_ldA rfl rfl ?_
    obtain ⟨hc2, k3⟩ := ok_0 hO0
    refine ur_get rfl hc2 rfl ?_
    obtain ⟨f5, f6, hc4, k7⟩ := ok_1 hO0
    refine ur_get rfl hc4 rfl ?_
    exact ur_ret rfl rfl (hQ _ ⟨_, rfl⟩ )
  · refine ur_tabI rfl (by omega) (by rw [t1]; rfl) ?_
    refine ur_ldA rfl rfl ?_
    obtain ⟨hc8, k9⟩ := ok_0 hO0
    refine ur_get rfl hc8 rfl ?_
    obtain ⟨f11, f12, hc10, k13⟩ := ok_1 hO0
    refine ur_get rfl hc10 rfl ?_
    exact ur_ret rfl rfl (hQ _ ⟨_, rfl⟩ )
  · refine ur_tabI rfl (by omega) (by rw [t1]; rfl) ?_
    refine ur_ldA rfl rfl ?_
    obtain ⟨hc14, k15⟩ := ok_0 hO0
    refine ur_get rfl hc14 rfl ?_
    obtain ⟨f17, f18, f19, f20, hc16, k21⟩ := ok_15 hO0
    refine ur_get rfl hc16 rfl ?_
    exact ur_ret rfl rfl (hQ _ ⟨_, rfl⟩ )
  · refine ur_tabI rfl (by omega) (by rw [t1]; rfl) ?_
    refine ur_ldA rfl rfl ?_
    obtain ⟨hc22, k23⟩ := ok_0 hO0
    refine ur_get rfl hc22 rfl ?_
    obtain ⟨f25, f26, f27, f28, hc24, k29⟩ := ok_5 hO0
    refine ur_get rfl hc24 rfl ?_
    exact ur_ret rfl rfl (hQ _ ⟨_, rfl⟩ )
  · refine ur_tabI rfl (by omega) (by rw [t1]; rfl) ?_
    refine ur_ldA rfl rfl ?_
    obtain ⟨hc30, k31⟩ := ok_0 hO0
    refine ur_get rfl hc30 rfl ?_
    obtain ⟨f33, f34, hc32, k35⟩ := ok_41 hO0
    refine ur_get rfl hc32 rfl ?_
    exact ur_ret rfl rfl (hQ _ ⟨_, rfl⟩ )
  · refine ur_tabI rfl (by omega) (by rw [t1]; rfl) ?_
    refine ur_ldA rfl rfl ?_
    obtain ⟨hc36, k37⟩ := ok_0 hO0
    refine ur_get rfl hc36 rfl ?_
    obtain ⟨f39, hc38, k40⟩ := ok_52 hO0
    refine ur_get rfl hc38 rfl ?_
    exact ur_ret rfl rfl (hQ _ ⟨_, rfl⟩ )
  · refine ur_tabI rfl (by omega) (by rw [t1]; rfl) ?_
    refine ur_ldA rfl rfl ?_
    obtain ⟨hc41, k42⟩ := ok_0 hO0
    refine ur_get rfl hc41 rfl ?_
    obtain ⟨f44, hc43, k45⟩ := ok_55 hO0
    refine ur_get rfl hc43 rfl ?_
    exact ur_ret rfl rfl (hQ _ ⟨_, rfl⟩ )

set_option maxRecDepth 20000 in
set_option maxHeartbeats 4000000 in
theorem sf_X11_paths {d kc ks : Nat} {h0 : aH} {Q : Option aV → aH → Prop} (hO0 : OK h0) (a1 : Int32) (a2 : Int32) (a3 : Int32) (hQ : ∀ r, (∃ x, r = some (.inl x)) → Q r h0) : uCall Mt (d + 5) 148 [(.inr (.inr (some 0))), (.inl a1), (.inl a2), (.inl a3)] h0 kc ks Q := by
  have l_m5 : ((-5) : Int32).toInt = -5 := by decide
  have l_m1 : ((-1) : Int32).toInt = -1 := by decide
  have l_0 : ((0) : Int32).toInt = 0 := by decide
  have l_2 : ((2) : Int32).toInt = 2 := by decide
  have l_4 : ((4) : Int32).toInt = 4 := by decide
  have l_90 : ((90) : Int32).toInt = 90 := by decide
  have l_999999 : ((999999) : Int32).toInt = 999999 := by decide
  refine uc_ink [some (.inr (.inr (some 0))), some (.inl a1), some (.inl a2), some (.inl a3)] mt_148 (Nat.le_of_ble_eq_true rfl) rfl ?_
  refine ur_ldI rfl rfl ?_
  refine ur_callv rfl rfl (Nat.le_of_ble_eq_true rfl) (Nat.le_of_ble_eq_true rfl) rfl (sp_isDay _ _) ?_
  refine ur_eqB rfl (fun c3 => ?_) (fun c3 => ?_)
  · have t4 := wi_noL c3 l_0 l_999999
    refine ur_push rfl ?_
    exact ur_ret rfl rfl (hQ _ ⟨_, rfl⟩ )
  · have t5 := wi_toL c3 l_0 l_999999
    refine ur_ldI rfl rfl ?_
    refine ur_push rfl ?_
    refine ur_push rfl ?_
    refine ur_callv rfl rfl (Nat.le_of_ble_eq_true rfl) (Nat.le_of_ble_eq_true rfl) rfl (sp_within _ _ _ _ _) ?_
    refine ur_eqB rfl (fun c8 => ?_) (fun c8 => ?_)
    · have t9 := wi_noL c8 l_0 l_90
      refine ur_push rfl ?_
      exact ur_ret rfl rfl (hQ _ ⟨_, rfl⟩ )
    · have t10 := wi_toL c8 l_0 l_90
      refine ur_ldI rfl rfl ?_
      refine ur_push rfl ?_
      refine ur_push rfl ?_
      refine ur_callv rfl rfl (Nat.le_of_ble_eq_true rfl) (Nat.le_of_ble_eq_true rfl) rfl (sp_within _ _ _ _ _) ?_
      refine ur_neB rfl (fun c13 => ?_) (fun c13 => ?_)
      · have t14 := wi_toL c13 l_0 l_4
        refine ur_ldA rfl rfl ?_
        obtain ⟨hc15, k16⟩ := ok_0 hO0
        refine ur_get rfl hc15 rfl ?_
        obtain ⟨f18, hc17, k19⟩ := ok_52 hO0
        refine ur_get rfl hc17 rfl ?_
        refine ur_push rfl ?_
        refine ur_if2 rfl (fun c20 => ?_) (fun c20 => ?_)
        · have t21 := le_to c20
          refine ur_ldA rfl rfl ?_
          refine ur_get rfl hc15 rfl ?_
          refine ur_ldI rfl rfl ?_
          refine ur_ldI rfl rfl ?_
          refine ur_ldI rfl rfl ?_
          refine ur_inl rfl (rcv_of hc17) (Nat.le_of_ble_eq_true rfl) (Nat.le_of_ble_eq_true rfl) (sf_X3_findPaths hO0 _ (by show 0 ≤ a1.toInt ∧ a1.toInt ≤ 999999; omega) _ _ (fun w22 hr23 => ?_))
          obtain ⟨x24, rfl⟩ := hr23
          show uRun _ (uCall Mt _) _ 52 (_, [(.inl x24)], _, _, _)
          exact ur_ret rfl rfl (hQ _ ⟨_, rfl⟩ )
        · have t25 := le_no c20
          refine ur_push rfl ?_
          exact ur_ret rfl rfl (hQ _ ⟨_, rfl⟩ )
      · have t26 := wi_noL c13 l_0 l_4
        refine ur_push rfl ?_
        exact ur_ret rfl rfl (hQ _ ⟨_, rfl⟩ )

set_option maxRecDepth 20000 in
set_option maxHeartbeats 4000000 in
theorem sf_X11_alike {d kc ks : Nat} {h0 : aH} {Q : Option aV → aH → Prop} (hO0 : OK h0) (a1 : Int32) (a2 : Int32) (a3 : Int32) (hQ : ∀ r, (∃ x, r = some (.inl x)) → Q r h0) : uCall Mt (d + 3) 150 [(.inr (.inr (some 0))), (.inl a1), (.inl a2), (.inl a3)] h0 kc ks Q := by
  have l_m1 : ((-1) : Int32).toInt = -1 := by decide
  have l_0 : ((0) : Int32).toInt = 0 := by decide
  have l_1 : ((1) : Int32).toInt = 1 := by decide
  have l_180 : ((180) : Int32).toInt = 180 := by decide
  refine uc_ink [some (.inr (.inr (some 0))), some (.inl a1), some (.inl a2), some (.inl a3), none, none] mt_150 (Nat.le_of_ble_eq_true rfl) rfl ?_
  refine ur_ldA rfl rfl ?_
  obtain ⟨hc1, k2⟩ := ok_0 hO0
  refine ur_get rfl hc1 rfl ?_
  refine ur_ldI rfl rfl ?_
  obtain ⟨f4, f5, hc3, k6⟩ := ok_1 hO0
  refine ur_inl rfl (rcv_of hc3) (Nat.le_of_ble_eq_true rfl) (Nat.le_of_ble_eq_true rfl) (sf_X6_cometAt hO0 _ (fun w7 hr8 => ?_))
  obtain ⟨o9, rfl, k10⟩ := hr8
  show uRun _ (uCall Mt _) _ 8 (_, [(.inr (.inr o9))], _, _, _)
  refine ur_svAk [some (.inr (.inr (some 0))), some (.inl a1), some (.inl a2), some (.inl a3), some (.inr (.inr o9)), none] rfl rfl ?_
  refine ur_ldA rfl rfl ?_
  refine ur_get rfl hc1 rfl ?_
  refine ur_ldI rfl rfl ?_
  refine ur_inl rfl (rcv_of hc3) (Nat.le_of_ble_eq_true rfl) (Nat.le_of_ble_eq_true rfl) (sf_X6_cometAt hO0 _ (fun w11 hr12 => ?_))
  obtain ⟨o13, rfl, k14⟩ := hr12
  show uRun _ (uCall Mt _) _ 18 (_, [(.inr (.inr o13))], _, _, _)
  refine ur_svAk [some (.inr (.inr (some 0))), some (.inl a1), some (.inl a2), some (.inl a3), some (.inr (.inr o9)), some (.inr (.inr o13))] rfl rfl ?_
  refine ur_ldA rfl rfl ?_
  cases o9 with
  | none =>
    refine ur_nulN rfl ?_
    refine ur_push rfl ?_
    exact ur_ret rfl rfl (hQ _ ⟨_, rfl⟩ )
  | some r15 =>
    refine ur_nulS rfl ?_
    have k16 := k10 _ rfl
    refine ur_ldA rfl rfl ?_
    cases o13 with
    | none =>
      refine ur_nulN rfl ?_
      refine ur_push rfl ?_
      exact ur_ret rfl rfl (hQ _ ⟨_, rfl⟩ )
    | some r17 =>
      refine ur_nulS rfl ?_
      have k18 := k14 _ rfl
      refine ur_ldI rfl rfl ?_
      refine ur_push rfl ?_
      refine ur_push rfl ?_
      refine ur_callv rfl rfl (Nat.le_of_ble_eq_true rfl) (Nat.le_of_ble_eq_true rfl) rfl (sp_within _ _ _ _ _) ?_
      refine ur_neB rfl (fun c21 => ?_) (fun c21 => ?_)
      · have t22 := wi_toL c21 l_0 l_180
        refine ur_ldA rfl rfl ?_
        obtain ⟨g43, f24, f25, f26, f27, f28, f29, f30, f31, f32, f33, q34, q35, o36, q37, hc23, k38, k39, k40, k41, k42⟩ := hO0.comet k16.2
        refine ur_get rfl hc23 rfl ?_
        refine ur_ldA rfl rfl ?_
        obtain ⟨g64, f45, f46, f47, f48, f49, f50, f51, f52, f53, f54, q55, q56, o57, q58, hc44, k59, k60, k61, k62, k63⟩ := hO0.comet k18.2
        refine ur_get rfl hc44 rfl ?_
        have z65 := any_r f28
        have z66 := any_r f49
        refine ur_if2 rfl (fun c67 => ?_) (fun c67 => ?_)
        · have t68 := ne_to c67
          refine ur_push rfl ?_
          exact ur_ret rfl rfl (hQ _ ⟨_, rfl⟩ )
        · have t69 := ne_no c67
          refine ur_ldA rfl rfl ?_
          refine ur_get rfl hc23 rfl ?_
          refine ur_ldA rfl rfl ?_
          refine ur_get rfl hc44 rfl ?_
          refine ur_binV rfl (fun x70 e71 => ?_)
          have z72 := any_r f26
          have z73 := any_r f47
          refine ur_ldA rfl rfl ?_
          refine ur_get rfl hc23 rfl ?_
          refine ur_ldA rfl rfl ?_
          refine ur_get rfl hc44 rfl ?_
          refine ur_binV rfl (fun x74 e75 => ?_)
          have z76 := any_r f27
          have z77 := any_r f48
          refine ur_ldI rfl rfl ?_
          refine ur_inl rfl rfl (Nat.le_of_ble_eq_true rfl) (Nat.le_of_ble_eq_true rfl) (sf_X11_isNear _ _ _ (fun w78 hr79 => ?_))
          obtain ⟨b80, rfl⟩ := hr79
          show uRun _ (uCall Mt _) _ 82 (_, [(.inl (bi b80))], _, _, _)
          refine ur_eqB rfl (fun c81 => ?_) (fun c81 => ?_)
          · refine ur_push rfl ?_
            exact ur_ret rfl rfl (hQ _ ⟨_, rfl⟩ )
          · refine ur_push rfl ?_
            refine ur_go rfl ?_
            exact ur_ret rfl rfl (hQ _ ⟨_, rfl⟩ )
      · have t82 := wi_noL c21 l_0 l_180
        refine ur_push rfl ?_
        exact ur_ret rfl rfl (hQ _ ⟨_, rfl⟩ )

set_option maxRecDepth 20000 in
set_option maxHeartbeats 4000000 in
theorem sf_X11_chance {d kc ks : Nat} {h0 : aH} {Q : Option aV → aH → Prop} (hO0 : OK h0) (a1 : Int32) (a2 : Int32) (a3 : Int32) (hQ : ∀ r, (∃ x, r = some (.inl x)) → Q r h0) : uCall Mt (d + 4) 151 [(.inr (.inr (some 0))), (.inl a1), (.inl a2), (.inl a3)] h0 kc ks Q := by
  have l_m1 : ((-1) : Int32).toInt = -1 := by decide
  have l_0 : ((0) : Int32).toInt = 0 := by decide
  have l_1 : ((1) : Int32).toInt = 1 := by decide
  have l_180 : ((180) : Int32).toInt = 180 := by decide
  have l_200 : ((200) : Int32).toInt = 200 := by decide
  refine uc_ink [some (.inr (.inr (some 0))), some (.inl a1), some (.inl a2), some (.inl a3)] mt_151 (Nat.le_of_ble_eq_true rfl) rfl ?_
  refine ur_ldI rfl rfl ?_
  refine ur_push rfl ?_
  refine ur_push rfl ?_
  refine ur_callv rfl rfl (Nat.le_of_ble_eq_true rfl) (Nat.le_of_ble_eq_true rfl) rfl (sp_within _ _ _ _ _) ?_
  refine ur_eqB rfl (fun c3 => ?_) (fun c3 => ?_)
  · have t4 := wi_noL c3 l_0 l_180
    refine ur_push rfl ?_
    exact ur_ret rfl rfl (hQ _ ⟨_, rfl⟩ )
  · have t5 := wi_toL c3 l_0 l_180
    refine ur_ldI rfl rfl ?_
    refine ur_push rfl ?_
    refine ur_push rfl ?_
    refine ur_callv rfl rfl (Nat.le_of_ble_eq_true rfl) (Nat.le_of_ble_eq_true rfl) rfl (sp_within _ _ _ _ _) ?_
    refine ur_neB rfl (fun c8 => ?_) (fun c8 => ?_)
    · have t9 := wi_toL c8 l_1 l_200
      refine ur_ldI rfl rfl ?_
      refine ur_ldI rfl rfl ?_
      refine ur_ldI rfl rfl ?_
      refine ur_inl rfl rfl (Nat.le_of_ble_eq_true rfl) (Nat.le_of_ble_eq_true rfl) (sf_X11_thousandthsNear _ _ _ (fun w10 hr11 => ?_))
      obtain ⟨x12, rfl⟩ := hr11
      show uRun _ (uCall Mt _) _ 30 (_, [(.inl x12)], _, _, _)
      exact ur_ret rfl rfl (hQ _ ⟨_, rfl⟩ )
    · have t13 := wi_noL c8 l_1 l_200
      refine ur_push rfl ?_
      exact ur_ret rfl rfl (hQ _ ⟨_, rfl⟩ )

set_option maxRecDepth 20000 in
set_option maxHeartbeats 4000000 in
theorem sf_X11_ofComet {d kc ks : Nat} {h0 : aH} {Q : Option aV → aH → Prop} (hO0 : OK h0) (a1 : Int32) (a2 : Int32) (hQ : ∀ r, (∃ x, r = some (.inl x)) → Q r h0) : uCall Mt (d + 2) 126 [(.inr (.inr (some 0))), (.inl a1), (.inl a2)] h0 kc ks Q := by
  have l_m2000000000 : ((-2000000000) : Int32).toInt = -2000000000 := by decide
  refine uc_ink [some (.inr (.inr (some 0))), some (.inl a1), some (.inl a2), none] mt_126 (Nat.le_of_ble_eq_true rfl) rfl ?_
  refine ur_ldA rfl rfl ?_
  obtain ⟨hc1, k2⟩ := ok_0 hO0
  refine ur_get rfl hc1 rfl ?_
  refine ur_ldI rfl rfl ?_
  obtain ⟨f4, f5, hc3, k6⟩ := ok_1 hO0
  refine ur_inl rfl (rcv_of hc3) (Nat.le_of_ble_eq_true rfl) (Nat.le_of_ble_eq_true rfl) (sf_X6_cometAt hO0 _ (fun w7 hr8 => ?_))
  obtain ⟨o9, rfl, k10⟩ := hr8
  show uRun _ (uCall Mt _) _ 8 (_, [(.inr (.inr o9))], _, _, _)
  refine ur_svAk [some (.inr (.inr (some 0))), some (.inl a1), some (.inl a2), some (.inr (.inr o9))] rfl rfl ?_
  refine ur_ldA rfl rfl ?_
  cases o9 with
  | none =>
    refine ur_nulN rfl ?_
    refine ur_push rfl ?_
    exact ur_ret rfl rfl (hQ _ ⟨_, rfl⟩ )
  | some r11 =>
    refine ur_nulS rfl ?_
    have k12 := k10 _ rfl
    refine ur_ldI rfl rfl ?_
    rcases (show (a2.toInt < 0 ∨ 7 < a2.toInt) ∨ a2.toInt = 0 ∨ a2.toInt = 1 ∨ a2.toInt = 2 ∨ a2.toInt = 3 ∨ a2.toInt = 4 ∨ a2.toInt = 5 ∨ a2.toInt = 6 ∨ a2.toInt = 7 by omega) with t13 | t13 | t13 | t13 | t13 | t13 | t13 | t13 | t13
    · refine ur_tabO rfl (by show a2.toInt < 0 ∨ 0 + 8 ≤ a2.toInt; omega) ?_
      refine ur_push rfl ?_
      exact ur_ret rfl rfl (hQ _ ⟨_, rfl⟩ )
    · refine ur_tabI rfl (by omega) (by rw [t13]; rfl) ?_
      refine ur_ldA rfl rfl ?_
      obtain ⟨g34, f15, f16, f17, f18, f19, f20, f21, f22, f23, f24, q25, q26, o27, q28, hc14, k29, k30, k31, k32, k33⟩ := hO0.comet k12.2
      refine ur_get rfl hc14 rfl ?_
      exact ur_ret rfl rfl (hQ _ ⟨_, rfl⟩ )
    · refine ur_tabI rfl (by omega) (by rw [t13]; rfl) ?_
      refine ur_ldA rfl rfl ?_
      obtain ⟨g55, f36, f37, f38, f39, f40, f41, f42, f43, f44, f45, q46, q47, o48, q49, hc35, k50, k51, k52, k53, k54⟩ := hO0.comet k12.2
      refine ur_get rfl hc35 rfl ?_
      exact ur_ret rfl rfl (hQ _ ⟨_, rfl⟩ )
    · refine ur_tabI rfl (by omega) (by rw [t13]; rfl) ?_
      refine ur_ldA rfl rfl ?_
      obtain ⟨g76, f57, f58, f59, f60, f61, f62, f63, f64, f65, f66, q67, q68, o69, q70, hc56, k71, k72, k73, k74, k75⟩ := hO0.comet k12.2
      refine ur_get rfl hc56 rfl ?_
      exact ur_ret rfl rfl (hQ _ ⟨_, rfl⟩ )
    · refine ur_tabI rfl (by omega) (by rw [t13]; rfl) ?_
      refine ur_ldA rfl rfl ?_
      obtain ⟨g97, f78, f79, f80, f81, f82, f83, f84, f85, f86, f87, q88, q89, o90, q91, hc77, k92, k93, k94, k95, k96⟩ := hO0.comet k12.2
      refine ur_get rfl hc77 rfl ?_
      exact ur_ret rfl rfl (hQ _ ⟨_, rfl⟩ )
    · refine ur_tabI rfl (by omega) (by rw [t13]; rfl) ?_
      refine ur_ldA rfl rfl ?_
      obtain ⟨g118, f99, f100, f101, f102, f103, f104, f105, f106, f107, f108, q109, q110, o111, q112, hc98, k113, k114, k115, k116, k117⟩ := hO0.comet k12.2
      refine ur_get rfl hc98 rfl ?_
      exact ur_ret rfl rfl (hQ _ ⟨_, rfl⟩ )
    · refine ur_tabI rfl (by omega) (by rw [t13]; rfl) ?_
      refine ur_ldA rfl rfl ?_
      obtain ⟨g139, f120, f121, f122, f123, f124, f125, f126, f127, f128, f129, q130, q131, o132, q133, hc119, k134, k135, k136, k137, k138⟩ := hO0.comet k12.2
      refine ur_get rfl hc119 rfl ?_
      exact ur_ret rfl rfl (hQ _ ⟨_, rfl⟩ )
    · refine ur_tabI rfl (by omega) (by rw [t13]; rfl) ?_
      refine ur_ldA rfl rfl ?_
      obtain ⟨g160, f141, f142, f143, f144, f145, f146, f147, f148, f149, f150, q151, q152, o153, q154, hc140, k155, k156, k157, k158, k159⟩ := hO0.comet k12.2
      refine ur_get rfl hc140 rfl ?_
      exact ur_ret rfl rfl (hQ _ ⟨_, rfl⟩ )
    · refine ur_tabI rfl (by omega) (by rw [t13]; rfl) ?_
      refine ur_ldA rfl rfl ?_
      obtain ⟨g181, f162, f163, f164, f165, f166, f167, f168, f169, f170, f171, q172, q173, o174, q175, hc161, k176, k177, k178, k179, k180⟩ := hO0.comet k12.2
      refine ur_get rfl hc161 rfl ?_
      exact ur_ret rfl rfl (hQ _ ⟨_, rfl⟩ )

set_option maxRecDepth 20000 in
set_option maxHeartbeats 4000000 in
theorem sf_X11_pass {d kc ks : Nat} {h0 : aH} {Q : Option aV → aH → Prop} (hO0 : OK h0) (a1 : Int32) (a2 : Int32) (a3 : Int32) (hQ : ∀ r, (∃ x, r = some (.inl x)) → Q r h0) : uCall Mt (d + 4) 127 [(.inr (.inr (some 0))), (.inl a1), (.inl a2), (.inl a3)] h0 kc ks Q := by
  have l_m60 : ((-60) : Int32).toInt = -60 := by decide
  have l_m2 : ((-2) : Int32).toInt = -2 := by decide
  have l_m1 : ((-1) : Int32).toInt = -1 := by decide
  have l_0 : ((0) : Int32).toInt = 0 := by decide
  have l_1 : ((1) : Int32).toInt = 1 := by decide
  have l_60 : ((60) : Int32).toInt = 60 := by decide
  refine uc_ink [some (.inr (.inr (some 0))), some (.inl a1), some (.inl a2), some (.inl a3), none] mt_127 (Nat.le_of_ble_eq_true rfl) rfl ?_
  refine ur_ldA rfl rfl ?_
  obtain ⟨hc1, k2⟩ := ok_0 hO0
  refine ur_get rfl hc1 rfl ?_
  refine ur_ldI rfl rfl ?_
  obtain ⟨f4, f5, hc3, k6⟩ := ok_1 hO0
  refine ur_inl rfl (rcv_of hc3) (Nat.le_of_ble_eq_true rfl) (Nat.le_of_ble_eq_true rfl) (sf_X6_cometAt hO0 _ (fun w7 hr8 => ?_))
  obtain ⟨o9, rfl, k10⟩ := hr8
  show uRun _ (uCall Mt _) _ 8 (_, [(.inr (.inr o9))], _, _, _)
  refine ur_svAk [some (.inr (.inr (some 0))), some (.inl a1), some (.inl a2), some (.inl a3), some (.inr (.inr o9))] rfl rfl ?_
  refine ur_ldA rfl rfl ?_
  cases o9 with
  | none =>
    refine ur_nulN rfl ?_
    refine ur_push rfl ?_
    exact ur_ret rfl rfl (hQ _ ⟨_, rfl⟩ )
  | some r11 =>
    refine ur_nulS rfl ?_
    have k12 := k10 _ rfl
    refine ur_ldI rfl rfl ?_
    refine ur_callv rfl rfl (Nat.le_of_ble_eq_true rfl) (Nat.le_of_ble_eq_true rfl) rfl (sp_isRet _ _) ?_
    refine ur_eqB rfl (fun c15 => ?_) (fun c15 => ?_)
    · have t16 := wi_noL c15 l_m60 l_60
      refine ur_push rfl ?_
      exact ur_ret rfl rfl (hQ _ ⟨_, rfl⟩ )
    · have t17 := wi_toL c15 l_m60 l_60
      refine ur_ldI rfl rfl ?_
      refine ur_push rfl ?_
      refine ur_push rfl ?_
      refine ur_callv rfl rfl (Nat.le_of_ble_eq_true rfl) (Nat.le_of_ble_eq_true rfl) rfl (sp_within _ _ _ _ _) ?_
      refine ur_neB rfl (fun c20 => ?_) (fun c20 => ?_)
      · have t21 := wi_toL c20 l_0 l_1
        refine ur_ldA rfl rfl ?_
        refine ur_ldI rfl rfl ?_
        obtain ⟨g42, f23, f24, f25, f26, f27, f28, f29, f30, f31, f32, q33, q34, o35, q36, hc22, k37, k38, k39, k40, k41⟩ := hO0.comet k12.2
        refine ur_inl rfl (rcv_of hc22) (Nat.le_of_ble_eq_true rfl) (Nat.le_of_ble_eq_true rfl) (sf_X2_hasReturn hO0 g42 k12.2 _ (fun w43 hr44 => ?_))
        obtain ⟨b45, rfl⟩ := hr44
        show uRun _ (uCall Mt _) _ 39 (_, [(.inl (bi b45))], _, _, _)
        refine ur_neB rfl (fun c46 => ?_) (fun c46 => ?_)
        · refine ur_ldI rfl rfl ?_
          refine ur_if1 rfl (fun c47 => ?_) (fun c47 => ?_)
          · have t48 := ne_to c47
            refine ur_ldA rfl rfl ?_
            refine ur_get rfl hc1 rfl ?_
            refine ur_ldI rfl rfl ?_
            refine ur_inl rfl (rcv_of hc3) (Nat.le_of_ble_eq_true rfl) (Nat.le_of_ble_eq_true rfl) (sf_X6_wideOf hO0 _ (by show -60 ≤ a2.toInt ∧ a2.toInt ≤ 60; omega) (fun w49 hr50 => ?_))
            obtain ⟨x51, rfl, t52⟩ := hr50
            show uRun _ (uCall Mt _) _ 66 (_, [(.inl x51)], _, _, _)
            exact ur_ret rfl rfl (hQ _ ⟨_, rfl⟩ )
          · have t53 := ne_no c47
            refine ur_ldA rfl rfl ?_
            refine ur_ldI rfl rfl ?_
            refine ur_inl rfl (rcv_of hc22) (Nat.le_of_ble_eq_true rfl) (Nat.le_of_ble_eq_true rfl) (sf_X2_passOf hO0 g42 k12.2 _ (fun w54 hr55 => ?_))
            obtain ⟨x56, rfl⟩ := hr55
            show uRun _ (uCall Mt _) _ 55 (_, [(.inl x56)], _, _, _)
            refine ur_go rfl ?_
            exact ur_ret rfl rfl (hQ _ ⟨_, rfl⟩ )
        · refine ur_push rfl ?_
          exact ur_ret rfl rfl (hQ _ ⟨_, rfl⟩ )
      · have t57 := wi_noL c20 l_0 l_1
        refine ur_push rfl ?_
        exact ur_ret rfl rfl (hQ _ ⟨_, rfl⟩ )

set_option maxRecDepth 20000 in
set_option maxHeartbeats 4000000 in
theorem sf_X11_stands {d kc ks : Nat} {h0 : aH} {Q : Option aV → aH → Prop} (hO0 : OK h0) (a1 : Int32) (a2 : Int32) (a3 : Int32) (a4 : Int32) (hQ : ∀ r h', (∃ x, r = some (.inl x)) → OK h' → un [] h0 h' → Q r h') : uCall Mt (d + 5) 128 [(.inr (.inr (some 0))), (.inl a1), (.inl a2), (.inl a3), (.inl a4)] h0 kc ks Q := by
  have l_m120 : ((-120) : Int32).toInt = -120 := by decide
  have l_m60 : ((-60) : Int32).toInt = -60 := by decide
  have l_m2 : ((-2) : Int32).toInt = -2 := by decide
  have l_m1 : ((-1) : Int32).toInt = -1 := by decide
  have l_0 : ((0) : Int32).toInt = 0 := by decide
  have l_3 : ((3) : Int32).toInt = 3 := by decide
  have l_60 : ((60) : Int32).toInt = 60 := by decide
  have l_120 : ((120) : Int32).toInt = 120 := by decide
  have l_999999 : ((999999) : Int32).toInt = 999999 := by decide
  refine uc_ink [some (.inr (.inr (some 0))), some (.inl a1), some (.inl a2), some (.inl a3), some (.inl a4), none, none] mt_128 (Nat.le_of_ble_eq_true rfl) rfl ?_
  refine ur_ldA rfl rfl ?_
  obtain ⟨hc1, k2⟩ := ok_0 hO0
  refine ur_get rfl hc1 rfl ?_
  refine ur_ldI rfl rfl ?_
  obtain ⟨f4, f5, hc3, k6⟩ := ok_1 hO0
  refine ur_inl rfl (rcv_of hc3) (Nat.le_of_ble_eq_true rfl) (Nat.le_of_ble_eq_true rfl) (sf_X6_cometAt hO0 _ (fun w7 hr8 => ?_))
  obtain ⟨o9, rfl, k10⟩ := hr8
  show uRun _ (uCall Mt _) _ 8 (_, [(.inr (.inr o9))], _, _, _)
  refine ur_svAk [some (.inr (.inr (some 0))), some (.inl a1), some (.inl a2), some (.inl a3), some (.inl a4), some (.inr (.inr o9)), none] rfl rfl ?_
  refine ur_ldA rfl rfl ?_
  cases o9 with
  | none =>
    refine ur_nulN rfl ?_
    refine ur_push rfl ?_
    exact ur_ret rfl rfl (hQ _ _ ⟨_, rfl⟩ hO0 un.rf)
  | some r11 =>
    refine ur_nulS rfl ?_
    have k12 := k10 _ rfl
    refine ur_ldI rfl rfl ?_
    refine ur_callv rfl rfl (Nat.le_of_ble_eq_true rfl) (Nat.le_of_ble_eq_true rfl) rfl (sp_isRet _ _) ?_
    refine ur_eqB rfl (fun c15 => ?_) (fun c15 => ?_)
    · have t16 := wi_noL c15 l_m60 l_60
      refine ur_push rfl ?_
      exact ur_ret rfl rfl (hQ _ _ ⟨_, rfl⟩ hO0 un.rf)
    · have t17 := wi_toL c15 l_m60 l_60
      refine ur_ldI rfl rfl ?_
      refine ur_callv rfl rfl (Nat.le_of_ble_eq_true rfl) (Nat.le_of_ble_eq_true rfl) rfl (sp_isDay _ _) ?_
      refine ur_eqB rfl (fun c20 => ?_) (fun c20 => ?_)
      · have t21 := wi_noL c20 l_0 l_999999
        refine ur_push rfl ?_
        exact ur_ret rfl rfl (hQ _ _ ⟨_, rfl⟩ hO0 un.rf)
      · have t22 := wi_toL c20 l_0 l_999999
        refine ur_ldI rfl rfl ?_
        refine ur_push rfl ?_
        refine ur_push rfl ?_
        refine ur_callv rfl rfl (Nat.le_of_ble_eq_true rfl) (Nat.le_of_ble_eq_true rfl) rfl (sp_within _ _ _ _ _) ?_
        refine ur_neB rfl (fun c25 => ?_) (fun c25 => ?_)
        · have t26 := wi_toL c25 l_0 l_3
          refine ur_ldA rfl rfl ?_
          refine ur_ldI rfl rfl ?_
          obtain ⟨g47, f28, f29, f30, f31, f32, f33, f34, f35, f36, f37, q38, q39, o40, q41, hc27, k42, k43, k44, k45, k46⟩ := hO0.comet k12.2
          refine ur_inl rfl (rcv_of hc27) (Nat.le_of_ble_eq_true rfl) (Nat.le_of_ble_eq_true rfl) (sf_X2_hasReturn hO0 g47 k12.2 _ (fun w48 hr49 => ?_))
          obtain ⟨b50, rfl⟩ := hr49
          show uRun _ (uCall Mt _) _ 47 (_, [(.inl (bi b50))], _, _, _)
          refine ur_neB rfl (fun c51 => ?_) (fun c51 => ?_)
          · refine ur_ldI rfl rfl ?_
            refine ur_ldA rfl rfl ?_
            refine ur_ldI rfl rfl ?_
            refine ur_inl rfl (rcv_of hc27) (Nat.le_of_ble_eq_true rfl) (Nat.le_of_ble_eq_true rfl) (sf_X2_passOf hO0 g47 k12.2 _ (fun w52 hr53 => ?_))
            obtain ⟨x54, rfl⟩ := hr53
            show uRun _ (uCall Mt _) _ 60 (_, [(.inl x54), (.inl a3)], _, _, _)
            refine ur_binV rfl (fun x55 e56 => ?_)
            have z57 := any_r a3
            have z58 := any_r x54
            refine ur_svIk [some (.inr (.inr (some 0))), some (.inl a1), some (.inl a2), some (.inl a3), some (.inl a4), some (.inr (.inr (some r11))), some (.inl x55)] rfl rfl ?_
            refine ur_ldI rfl rfl ?_
            refine ur_callv rfl rfl (Nat.le_of_ble_eq_true rfl) (Nat.le_of_ble_eq_true rfl) rfl (sp_isFar _ _) ?_
            refine ur_eqB rfl (fun c61 => ?_) (fun c61 => ?_)
            · have t62 := wi_toL (bnot_t c61) l_m120 l_120
              refine ur_ldI rfl rfl ?_
              rcases (show (a4.toInt < 0 ∨ 2 < a4.toInt) ∨ a4.toInt = 0 ∨ a4.toInt = 1 ∨ a4.toInt = 2 by omega) with t63 | t63 | t63 | t63
              · refine ur_tabO rfl (by show a4.toInt < 0 ∨ 0 + 3 ≤ a4.toInt; omega) ?_
                refine ur_ldA rfl rfl ?_
                refine ur_get rfl hc1 rfl ?_
                refine ur_ldA rfl rfl ?_
                refine ur_push rfl ?_
                refine ur_ldI rfl rfl ?_
                refine ur_ldI rfl rfl ?_
                obtain ⟨f65, hc64, k66⟩ := ok_8 hO0
                refine ur_inl rfl (rcv_of hc64) (Nat.le_of_ble_eq_true rfl) (Nat.le_of_ble_eq_true rfl) (sf_X5_tailOf hO0 g47 k12.2 _ _ _ (fun w67 h69 hr68 hO69 hv69 => ?_))
                have hu69 := hv69
                obtain ⟨x70, rfl⟩ := hr68
                show uRun _ (uCall Mt _) _ 142 (_, [(.inl x70)], _, _, _)
                exact ur_ret rfl rfl (hQ _ _ ⟨_, rfl⟩ hO69 hu69)
              · refine ur_tabI rfl (by omega) (by rw [t63]; rfl) ?_
                refine ur_ldA rfl rfl ?_
                refine ur_ldI rfl rfl ?_
                refine ur_inl rfl (rcv_of hc27) (Nat.le_of_ble_eq_true rfl) (Nat.le_of_ble_eq_true rfl) (sf_X2_degreeAt hO0 g47 k12.2 _ (fun w71 hr72 => ?_))
                obtain ⟨x73, rfl⟩ := hr72
                show uRun _ (uCall Mt _) _ 111 (_, [(.inl x73)], _, _, _)
                exact ur_ret rfl rfl (hQ _ _ ⟨_, rfl⟩ hO0 un.rf)
              · refine ur_tabI rfl (by omega) (by rw [t63]; rfl) ?_
                refine ur_ldA rfl rfl ?_
                refine ur_ldI rfl rfl ?_
                refine ur_inl rfl (rcv_of hc27) (Nat.le_of_ble_eq_true rfl) (Nat.le_of_ble_eq_true rfl) (sf_X2_distanceAt hO0 g47 k12.2 _ (fun w74 hr75 => ?_))
                obtain ⟨x76, rfl⟩ := hr75
                show uRun _ (uCall Mt _) _ 119 (_, [(.inl x76)], _, _, _)
                exact ur_ret rfl rfl (hQ _ _ ⟨_, rfl⟩ hO0 un.rf)
              · refine ur_tabI rfl (by omega) (by rw [t63]; rfl) ?_
                refine ur_ldA rfl rfl ?_
                refine ur_ldI rfl rfl ?_
                refine ur_ldI rfl rfl ?_
                refine ur_inl rfl (rcv_of hc27) (Nat.le_of_ble_eq_true rfl) (Nat.le_of_ble_eq_true rfl) (sf_X2_apartOfSun hO0 g47 k12.2 _ _ (fun w77 hr78 => ?_))
                obtain ⟨x79, rfl⟩ := hr78
                show uRun _ (uCall Mt _) _ 128 (_, [(.inl x79)], _, _, _)
                exact ur_ret rfl rfl (hQ _ _ ⟨_, rfl⟩ hO0 un.rf)
            · have t80 := wi_noL (bnot_f c61) l_m120 l_120
              refine ur_push rfl ?_
              exact ur_ret rfl rfl (hQ _ _ ⟨_, rfl⟩ hO0 un.rf)
          · refine ur_push rfl ?_
            exact ur_ret rfl rfl (hQ _ _ ⟨_, rfl⟩ hO0 un.rf)
        · have t81 := wi_noL c25 l_0 l_3
          refine ur_push rfl ?_
          exact ur_ret rfl rfl (hQ _ _ ⟨_, rfl⟩ hO0 un.rf)

set_option maxRecDepth 20000 in
set_option maxHeartbeats 4000000 in
theorem sf_X11_ofWord {d kc ks : Nat} {h0 : aH} {Q : Option aV → aH → Prop} (hO0 : OK h0) (a1 : Int32) (a2 : Int32) (hQ : ∀ r, (∃ x, r = some (.inl x)) → Q r h0) : uCall Mt (d + 2) 137 [(.inr (.inr (some 0))), (.inl a1), (.inl a2)] h0 kc ks Q := by
  have l_m1 : ((-1) : Int32).toInt = -1 := by decide
  refine uc_ink [some (.inr (.inr (some 0))), some (.inl a1), some (.inl a2), none] mt_137 (Nat.le_of_ble_eq_true rfl) rfl ?_
  refine ur_ldA rfl rfl ?_
  obtain ⟨hc1, k2⟩ := ok_0 hO0
  refine ur_get rfl hc1 rfl ?_
  refine ur_ldI rfl rfl ?_
  obtain ⟨f4, f5, f6, f7, hc3, k8⟩ := ok_15 hO0
  refine ur_inl rfl (rcv_of hc3) (Nat.le_of_ble_eq_true rfl) (Nat.le_of_ble_eq_true rfl) (sf_X1_wordAt hO0 _ (fun w9 hr10 => ?_))
  obtain ⟨o11, rfl, k12⟩ := hr10
  show uRun _ (uCall Mt _) _ 8 (_, [(.inr (.inr o11))], _, _, _)
  refine ur_svAk [some (.inr (.inr (some 0))), some (.inl a1), some (.inl a2), some (.inr (.inr o11))] rfl rfl ?_
  refine ur_ldA rfl rfl ?_
  cases o11 with
  | none =>
    refine ur_nulN rfl ?_
    refine ur_push rfl ?_
    exact ur_ret rfl rfl (hQ _ ⟨_, rfl⟩ )
  | some r13 =>
    refine ur_nulS rfl ?_
    have k14 := k12 _ rfl
    refine ur_ldI rfl rfl ?_
    rcases (show (a2.toInt < 0 ∨ 9 < a2.toInt) ∨ a2.toInt = 0 ∨ a2.toInt = 1 ∨ a2.toInt = 2 ∨ a2.toInt = 3 ∨ a2.toInt = 4 ∨ a2.toInt = 5 ∨ a2.toInt = 6 ∨ a2.toInt = 7 ∨ a2.toInt = 8 ∨ a2.toInt = 9 by omega) with t15 | t15 | t15 | t15 | t15 | t15 | t15 | t15 | t15 | t15 | t15
    · refine ur_tabO rfl (by show a2.toInt < 0 ∨ 0 + 10 ≤ a2.toInt; omega) ?_
      refine ur_push rfl ?_
      exact ur_ret rfl rfl (hQ _ ⟨_, rfl⟩ )
    · refine ur_tabI rfl (by omega) (by rw [t15]; rfl) ?_
      refine ur_ldA rfl rfl ?_
      obtain ⟨g32, f17, f18, f19, f20, f21, f22, f23, f24, f25, o29, f26, f27, f28, hc16, k30, k31⟩ := hO0.word k14.2
      refine ur_get rfl hc16 rfl ?_
      exact ur_ret rfl rfl (hQ _ ⟨_, rfl⟩ )
    · refine ur_tabI rfl (by omega) (by rw [t15]; rfl) ?_
      refine ur_ldA rfl rfl ?_
      obtain ⟨g49, f34, f35, f36, f37, f38, f39, f40, f41, f42, o46, f43, f44, f45, hc33, k47, k48⟩ := hO0.word k14.2
      refine ur_get rfl hc33 rfl ?_
      exact ur_ret rfl rfl (hQ _ ⟨_, rfl⟩ )
    · refine ur_tabI rfl (by omega) (by rw [t15]; rfl) ?_
      refine ur_ldA rfl rfl ?_
      obtain ⟨g66, f51, f52, f53, f54, f55, f56, f57, f58, f59, o63, f60, f61, f62, hc50, k64, k65⟩ := hO0.word k14.2
      refine ur_get rfl hc50 rfl ?_
      exact ur_ret rfl rfl (hQ _ ⟨_, rfl⟩ )
    · refine ur_tabI rfl (by omega) (by rw [t15]; rfl) ?_
      refine ur_ldA rfl rfl ?_
      obtain ⟨g83, f68, f69, f70, f71, f72, f73, f74, f75, f76, o80, f77, f78, f79, hc67, k81, k82⟩ := hO0.word k14.2
      refine ur_get rfl hc67 rfl ?_
      exact ur_ret rfl rfl (hQ _ ⟨_, rfl⟩ )
    · refine ur_tabI rfl (by omega) (by rw [t15]; rfl) ?_
      refine ur_ldA rfl rfl ?_
      obtain ⟨g100, f85, f86, f87, f88, f89, f90, f91, f92, f93, o97, f94, f95, f96, hc84, k98, k99⟩ := hO0.word k14.2
      refine ur_get rfl hc84 rfl ?_
      exact ur_ret rfl rfl (hQ _ ⟨_, rfl⟩ )
    · refine ur_tabI rfl (by omega) (by rw [t15]; rfl) ?_
      refine ur_ldA rfl rfl ?_
      obtain ⟨g117, f102, f103, f104, f105, f106, f107, f108, f109, f110, o114, f111, f112, f113, hc101, k115, k116⟩ := hO0.word k14.2
      refine ur_get rfl hc101 rfl ?_
      exact ur_ret rfl rfl (hQ _ ⟨_, rfl⟩ )
    · refine ur_tabI rfl (by omega) (by rw [t15]; rfl) ?_
      refine ur_ldA rfl rfl ?_
      obtain ⟨g134, f119, f120, f121, f122, f123, f124, f125, f126, f127, o131, f128, f129, f130, hc118, k132, k133⟩ := hO0.word k14.2
      refine ur_get rfl hc118 rfl ?_
      exact ur_ret rfl rfl (hQ _ ⟨_, rfl⟩ )
    · refine ur_tabI rfl (by omega) (by rw [t15]; rfl) ?_
      refine ur_ldA rfl rfl ?_
      obtain ⟨g151, f136, f137, f138, f139, f140, f141, f142, f143, f144, o148, f145, f146, f147, hc135, k149, k150⟩ := hO0.word k14.2
      refine ur_get rfl hc135 rfl ?_
      exact ur_ret rfl rfl (hQ _ ⟨_, rfl⟩ )
    · refine ur_tabI rfl (by omega) (by rw [t15]; rfl) ?_
      refine ur_ldA rfl rfl ?_
      obtain ⟨g168, f153, f154, f155, f156, f157, f158, f159, f160, f161, o165, f162, f163, f164, hc152, k166, k167⟩ := hO0.word k14.2
      refine ur_inl rfl (rcv_of hc152) (Nat.le_of_ble_eq_true rfl) (Nat.le_of_ble_eq_true rfl) (sf_X10_rootWord hO0 g168 k14.2 (fun w169 hr170 => ?_))
      obtain ⟨r171, rfl, k172⟩ := hr170
      show uRun _ (uCall Mt _) _ 116 (_, [(.inr (.inr (some r171)))], _, _, _)
      obtain ⟨g189, f174, f175, f176, f177, f178, f179, f180, f181, f182, o186, f183, f184, f185, hc173, k187, k188⟩ := hO0.word k172.2
      refine ur_get rfl hc173 rfl ?_
      exact ur_ret rfl rfl (hQ _ ⟨_, rfl⟩ )
    · refine ur_tabI rfl (by omega) (by rw [t15]; rfl) ?_
      refine ur_ldA rfl rfl ?_
      obtain ⟨g206, f191, f192, f193, f194, f195, f196, f197, f198, f199, o203, f200, f201, f202, hc190, k204, k205⟩ := hO0.word k14.2
      refine ur_inl rfl (rcv_of hc190) (Nat.le_of_ble_eq_true rfl) (Nat.le_of_ble_eq_true rfl) (sf_X10_rootWord hO0 g206 k14.2 (fun w207 hr208 => ?_))
      obtain ⟨r209, rfl, k210⟩ := hr208
      show uRun _ (uCall Mt _) _ 124 (_, [(.inr (.inr (some r209)))], _, _, _)
      obtain ⟨g227, f212, f213, f214, f215, f216, f217, f218, f219, f220, o224, f221, f222, f223, hc211, k225, k226⟩ := hO0.word k210.2
      refine ur_get rfl hc211 rfl ?_
      exact ur_ret rfl rfl (hQ _ ⟨_, rfl⟩ )

set_option maxRecDepth 20000 in
set_option maxHeartbeats 4000000 in
theorem sf_X11_span {d kc ks : Nat} {h0 : aH} {Q : Option aV → aH → Prop} (hO0 : OK h0) (a1 : Int32) (a2 : Int32) (a3 : Int32) (hQ : ∀ r, (∃ x, r = some (.inl x)) → Q r h0) : uCall Mt (d + 3) 138 [(.inr (.inr (some 0))), (.inl a1), (.inl a2), (.inl a3)] h0 kc ks Q := by
  have l_m2000000000 : ((-2000000000) : Int32).toInt = -2000000000 := by decide
  have l_0 : ((0) : Int32).toInt = 0 := by decide
  have l_1 : ((1) : Int32).toInt = 1 := by decide
  refine uc_ink [some (.inr (.inr (some 0))), some (.inl a1), some (.inl a2), some (.inl a3), none, none, none, none] mt_138 (Nat.le_of_ble_eq_true rfl) rfl ?_
  refine ur_ldA rfl rfl ?_
  obtain ⟨hc1, k2⟩ := ok_0 hO0
  refine ur_get rfl hc1 rfl ?_
  refine ur_ldI rfl rfl ?_
  obtain ⟨f4, f5, f6, f7, hc3, k8⟩ := ok_15 hO0
  refine ur_inl rfl (rcv_of hc3) (Nat.le_of_ble_eq_true rfl) (Nat.le_of_ble_eq_true rfl) (sf_X1_wordAt hO0 _ (fun w9 hr10 => ?_))
  obtain ⟨o11, rfl, k12⟩ := hr10
  show uRun _ (uCall Mt _) _ 8 (_, [(.inr (.inr o11))], _, _, _)
  refine ur_svAk [some (.inr (.inr (some 0))), some (.inl a1), some (.inl a2), some (.inl a3), some (.inr (.inr o11)), none, none, none] rfl rfl ?_
  refine ur_ldA rfl rfl ?_
  cases o11 with
  | none =>
    refine ur_nulN rfl ?_
    refine ur_push rfl ?_
    exact ur_ret rfl rfl (hQ _ ⟨_, rfl⟩ )
  | some r13 =>
    refine ur_nulS rfl ?_
    have k14 := k12 _ rfl
    refine ur_ldI rfl rfl ?_
    refine ur_push rfl ?_
    refine ur_push rfl ?_
    refine ur_callv rfl rfl (Nat.le_of_ble_eq_true rfl) (Nat.le_of_ble_eq_true rfl) rfl (sp_within _ _ _ _ _) ?_
    refine ur_neB rfl (fun c17 => ?_) (fun c17 => ?_)
    · have t18 := wi_toL c17 l_0 l_1
      refine ur_ldA rfl rfl ?_
      obtain ⟨g35, f20, f21, f22, f23, f24, f25, f26, f27, f28, o32, f29, f30, f31, hc19, k33, k34⟩ := hO0.word k14.2
      refine ur_inl rfl (rcv_of hc19) (Nat.le_of_ble_eq_true rfl) (Nat.le_of_ble_eq_true rfl) (sf_X10_rootWord hO0 g35 k14.2 (fun w36 hr37 => ?_))
      obtain ⟨r38, rfl, k39⟩ := hr37
      show uRun _ (uCall Mt _) _ 32 (_, [(.inr (.inr (some r38)))], _, _, _)
      refine ur_svAk [some (.inr (.inr (some 0))), some (.inl a1), some (.inl a2), some (.inl a3), some (.inr (.inr (some r13))), some (.inr (.inr (some r38))), none, none] rfl rfl ?_
      refine ur_ldI rfl rfl ?_
      refine ur_push rfl ?_
      refine ur_ldA rfl rfl ?_
      obtain ⟨g56, f41, f42, f43, f44, f45, f46, f47, f48, f49, o53, f50, f51, f52, hc40, k54, k55⟩ := hO0.word k39.2
      refine ur_get rfl hc40 rfl ?_
      refine ur_push rfl ?_
      refine ur_binV rfl (fun x57 e58 => ?_)
      have z59 := any_r f50
      refine ur_callv rfl rfl (Nat.le_of_ble_eq_true rfl) (Nat.le_of_ble_eq_true rfl) rfl (sp_within _ _ _ _ _) ?_
      refine ur_neB rfl (fun c62 => ?_) (fun c62 => ?_)
      · have t63 := wi_to c62
        refine ur_ldA rfl rfl ?_
        refine ur_ldI rfl rfl ?_
        refine ur_inl rfl (rcv_of hc40) (Nat.le_of_ble_eq_true rfl) (Nat.le_of_ble_eq_true rfl) (sf_X10_spanFrom hO0 g56 k39.2 _ (fun w64 hr65 => ?_))
        obtain ⟨x66, rfl, t67⟩ := hr65
        show uRun _ (uCall Mt _) _ 58 (_, [(.inl x66)], _, _, _)
        refine ur_svIk [some (.inr (.inr (some 0))), some (.inl a1), some (.inl a2), some (.inl a3), some (.inr (.inr (some r13))), some (.inr (.inr (some r38))), some (.inl x66), none] rfl rfl ?_
        refine ur_ldA rfl rfl ?_
        refine ur_ldI rfl rfl ?_
        refine ur_inl rfl (rcv_of hc40) (Nat.le_of_ble_eq_true rfl) (Nat.le_of_ble_eq_true rfl) (sf_X10_spanTo hO0 g56 k39.2 _ (fun w68 hr69 => ?_))
        obtain ⟨x70, rfl, t71⟩ := hr69
        show uRun _ (uCall Mt _) _ 66 (_, [(.inl x70)], _, _, _)
        refine ur_svIk [some (.inr (.inr (some 0))), some (.inl a1), some (.inl a2), some (.inl a3), some (.inr (.inr (some r13))), some (.inr (.inr (some r38))), some (.inl x66), some (.inl x70)] rfl rfl ?_
        refine ur_ldI rfl rfl ?_
        refine ur_ldI rfl rfl ?_
        have z72 := any_r x66
        have z73 := any_r x70
        refine ur_if2 rfl (fun c74 => ?_) (fun c74 => ?_)
        · have t75 := le_to c74
          refine ur_ldI rfl rfl ?_
          refine ur_if1 rfl (fun c76 => ?_) (fun c76 => ?_)
          · have t77 := ne_to c76
            refine ur_ldI rfl rfl ?_
            exact ur_ret rfl rfl (hQ _ ⟨_, rfl⟩ )
          · have t78 := ne_no c76
            refine ur_ldI rfl rfl ?_
            refine ur_go rfl ?_
            exact ur_ret rfl rfl (hQ _ ⟨_, rfl⟩ )
        · have t79 := le_no c74
          refine ur_push rfl ?_
          exact ur_ret rfl rfl (hQ _ ⟨_, rfl⟩ )
      · have t80 := wi_no c62
        refine ur_push rfl ?_
        exact ur_ret rfl rfl (hQ _ ⟨_, rfl⟩ )
    · have t81 := wi_noL c17 l_0 l_1
      refine ur_push rfl ?_
      exact ur_ret rfl rfl (hQ _ ⟨_, rfl⟩ )

set_option maxRecDepth 20000 in
set_option maxHeartbeats 4000000 in
theorem sf_X11_evening {d kc ks : Nat} {h0 : aH} {Q : Option aV → aH → Prop} (hO0 : OK h0) (a1 : Int32) (a2 : Int32) (hQ : ∀ r, (∃ x, r = some (.inl x)) → Q r h0) : uCall Mt (d + 4) 142 [(.inr (.inr (some 0))), (.inl a1), (.inl a2)] h0 kc ks Q := by
  have l_m2 : ((-2) : Int32).toInt = -2 := by decide
  have l_m1 : ((-1) : Int32).toInt = -1 := by decide
  refine uc_ink [some (.inr (.inr (some 0))), some (.inl a1), some (.inl a2), none, none, none] mt_142 (Nat.le_of_ble_eq_true rfl) rfl ?_
  refine ur_ldA rfl rfl ?_
  obtain ⟨hc1, k2⟩ := ok_0 hO0
  refine ur_get rfl hc1 rfl ?_
  refine ur_ldI rfl rfl ?_
  obtain ⟨f4, f5, f6, f7, hc3, k8⟩ := ok_15 hO0
  refine ur_inl rfl (rcv_of hc3) (Nat.le_of_ble_eq_true rfl) (Nat.le_of_ble_eq_true rfl) (sf_X1_wordAt hO0 _ (fun w9 hr10 => ?_))
  obtain ⟨o11, rfl, k12⟩ := hr10
  show uRun _ (uCall Mt _) _ 8 (_, [(.inr (.inr o11))], _, _, _)
  refine ur_svAk [some (.inr (.inr (some 0))), some (.inl a1), some (.inl a2), some (.inr (.inr o11)), none, none] rfl rfl ?_
  refine ur_ldA rfl rfl ?_
  refine ur_get rfl hc1 rfl ?_
  refine ur_ldI rfl rfl ?_
  refine ur_inl rfl (rcv_of hc3) (Nat.le_of_ble_eq_true rfl) (Nat.le_of_ble_eq_true rfl) (sf_X1_wordAt hO0 _ (fun w13 hr14 => ?_))
  obtain ⟨o15, rfl, k16⟩ := hr14
  show uRun _ (uCall Mt _) _ 17 (_, [(.inr (.inr o15))], _, _, _)
  refine ur_svAk [some (.inr (.inr (some 0))), some (.inl a1), some (.inl a2), some (.inr (.inr o11)), some (.inr (.inr o15)), none] rfl rfl ?_
  refine ur_ldA rfl rfl ?_
  cases o11 with
  | none =>
    refine ur_nulN rfl ?_
    refine ur_push rfl ?_
    exact ur_ret rfl rfl (hQ _ ⟨_, rfl⟩ )
  | some r17 =>
    refine ur_nulS rfl ?_
    have k18 := k12 _ rfl
    refine ur_ldA rfl rfl ?_
    cases o15 with
    | none =>
      refine ur_nulN rfl ?_
      refine ur_push rfl ?_
      exact ur_ret rfl rfl (hQ _ ⟨_, rfl⟩ )
    | some r19 =>
      refine ur_nulS rfl ?_
      have k20 := k16 _ rfl
      refine ur_ldA rfl rfl ?_
      refine ur_get rfl hc1 rfl ?_
      refine ur_ldA rfl rfl ?_
      obtain ⟨g37, f22, f23, f24, f25, f26, f27, f28, f29, f30, o34, f31, f32, f33, hc21, k35, k36⟩ := hO0.word k18.2
      refine ur_inl rfl (rcv_of hc21) (Nat.le_of_ble_eq_true rfl) (Nat.le_of_ble_eq_true rfl) (sf_X10_rootWord hO0 g37 k18.2 (fun w38 hr39 => ?_))
      obtain ⟨r40, rfl, k41⟩ := hr39
      show uRun _ (uCall Mt _) _ 38 (_, [(.inr (.inr (some r40))), (.inr (.inr (some 15)))], _, _, _)
      refine ur_ldA rfl rfl ?_
      obtain ⟨g58, f43, f44, f45, f46, f47, f48, f49, f50, f51, o55, f52, f53, f54, hc42, k56, k57⟩ := hO0.word k20.2
      refine ur_inl rfl (rcv_of hc42) (Nat.le_of_ble_eq_true rfl) (Nat.le_of_ble_eq_true rfl) (sf_X10_rootWord hO0 g58 k20.2 (fun w59 hr60 => ?_))
      obtain ⟨r61, rfl, k62⟩ := hr60
      show uRun _ (uCall Mt _) _ 43 (_, [(.inr (.inr (some r61))), (.inr (.inr (some r40))), (.inr (.inr (some 15)))], _, _, _)
      refine ur_inl rfl (rcv_of hc3) (Nat.le_of_ble_eq_true rfl) (Nat.le_of_ble_eq_true rfl) (sf_X1_firstCommonDay hO0 k41.1 k41.2 k62.1 k62.2 (fun w63 hr64 => ?_))
      obtain ⟨x65, rfl⟩ := hr64
      show uRun _ (uCall Mt _) _ 46 (_, [(.inl x65)], _, _, _)
      refine ur_svIk [some (.inr (.inr (some 0))), some (.inl a1), some (.inl a2), some (.inr (.inr (some r17))), some (.inr (.inr (some r19))), some (.inl x65)] rfl rfl ?_
      refine ur_ldI rfl rfl ?_
      refine ur_push rfl ?_
      refine ur_if2 rfl (fun c66 => ?_) (fun c66 => ?_)
      · have t67 := ne_to c66
        refine ur_ldI rfl rfl ?_
        exact ur_ret rfl rfl (hQ _ ⟨_, rfl⟩ )
      · have t68 := ne_no c66
        refine ur_push rfl ?_
        refine ur_go rfl ?_
        exact ur_ret rfl rfl (hQ _ ⟨_, rfl⟩ )

set_option maxRecDepth 20000 in
set_option maxHeartbeats 4000000 in
theorem sf_X11_once {d kc ks : Nat} {h0 : aH} {Q : Option aV → aH → Prop} (hO0 : OK h0) (a1 : Int32) (hQ : ∀ r h', (∃ x, r = some (.inl x)) → OK h' → un [] h0 h' → Q r h') : uCall Mt (d + 3) 144 [(.inr (.inr (some 0))), (.inl a1)] h0 kc ks Q := by
  have l_m1 : ((-1) : Int32).toInt = -1 := by decide
  have l_8 : ((8) : Int32).toInt = 8 := by decide
  refine uc_ink [some (.inr (.inr (some 0))), some (.inl a1)] mt_144 (Nat.le_of_ble_eq_true rfl) rfl ?_
  refine ur_ldI rfl rfl ?_
  refine ur_push rfl ?_
  refine ur_push rfl ?_
  refine ur_callv rfl rfl (Nat.le_of_ble_eq_true rfl) (Nat.le_of_ble_eq_true rfl) rfl (sp_within _ _ _ _ _) ?_
  refine ur_neB rfl (fun c3 => ?_) (fun c3 => ?_)
  · have t4 := wi_toL c3 l_m1 l_8
    refine ur_ldA rfl rfl ?_
    obtain ⟨hc5, k6⟩ := ok_0 hO0
    refine ur_get rfl hc5 rfl ?_
    refine ur_ldI rfl rfl ?_
    obtain ⟨f8, f9, f10, f11, hc7, k12⟩ := ok_15 hO0
    refine ur_inl rfl (rcv_of hc7) (Nat.le_of_ble_eq_true rfl) (Nat.le_of_ble_eq_true rfl) (sf_X1_countRoots hO0 _ (fun w13 h15 hr14 hO15 hv15 => ?_))
    have hu15 := hv15
    obtain ⟨x16, rfl⟩ := hr14
    show uRun _ (uCall Mt _) _ 20 (_, [(.inl x16)], _, _, _)
    exact ur_ret rfl rfl (hQ _ _ ⟨_, rfl⟩ hO15 hu15)
  · have t17 := wi_noL c3 l_m1 l_8
    refine ur_push rfl ?_
    exact ur_ret rfl rfl (hQ _ _ ⟨_, rfl⟩ hO0 un.rf)

set_option maxRecDepth 20000 in
set_option maxHeartbeats 4000000 in
theorem sf_X11_foretold {d kc ks : Nat} {h0 : aH} {Q : Option aV → aH → Prop} (hO0 : OK h0) (a1 : Int32) (a2 : Int32) (a3 : Int32) (a4 : Int32) (hQ : ∀ r, (∃ x, r = some (.inl x)) → Q r h0) : uCall Mt (d + 4) 152 [(.inr (.inr (some 0))), (.inl a1), (.inl a2), (.inl a3), (.inl a4)] h0 kc ks Q := by
  have l_m2000000000 : ((-2000000000) : Int32).toInt = -2000000000 := by decide
  have l_0 : ((0) : Int32).toInt = 0 := by decide
  have l_1 : ((1) : Int32).toInt = 1 := by decide
  have l_60 : ((60) : Int32).toInt = 60 := by decide
  refine uc_ink [some (.inr (.inr (some 0))), some (.inl a1), some (.inl a2), some (.inl a3), some (.inl a4), none, none] mt_152 (Nat.le_of_ble_eq_true rfl) rfl ?_
  refine ur_ldA rfl rfl ?_
  obtain ⟨hc1, k2⟩ := ok_0 hO0
  refine ur_get rfl hc1 rfl ?_
  refine ur_ldI rfl rfl ?_
  obtain ⟨f4, f5, hc3, k6⟩ := ok_1 hO0
  refine ur_inl rfl (rcv_of hc3) (Nat.le_of_ble_eq_true rfl) (Nat.le_of_ble_eq_true rfl) (sf_X6_cometAt hO0 _ (fun w7 hr8 => ?_))
  obtain ⟨o9, rfl, k10⟩ := hr8
  show uRun _ (uCall Mt _) _ 8 (_, [(.inr (.inr o9))], _, _, _)
  refine ur_svAk [some (.inr (.inr (some 0))), some (.inl a1), some (.inl a2), some (.inl a3), some (.inl a4), some (.inr (.inr o9)), none] rfl rfl ?_
  refine ur_ldA rfl rfl ?_
  cases o9 with
  | none =>
    refine ur_nulN rfl ?_
    refine ur_push rfl ?_
    exact ur_ret rfl rfl (hQ _ ⟨_, rfl⟩ )
  | some r11 =>
    refine ur_nulS rfl ?_
    have k12 := k10 _ rfl
    refine ur_ldI rfl rfl ?_
    refine ur_push rfl ?_
    refine ur_push rfl ?_
    refine ur_callv rfl rfl (Nat.le_of_ble_eq_true rfl) (Nat.le_of_ble_eq_true rfl) rfl (sp_within _ _ _ _ _) ?_
    refine ur_eqB rfl (fun c15 => ?_) (fun c15 => ?_)
    · have t16 := wi_noL c15 l_0 l_60
      refine ur_push rfl ?_
      exact ur_ret rfl rfl (hQ _ ⟨_, rfl⟩ )
    · have t17 := wi_toL c15 l_0 l_60
      refine ur_ldI rfl rfl ?_
      refine ur_push rfl ?_
      refine ur_push rfl ?_
      refine ur_callv rfl rfl (Nat.le_of_ble_eq_true rfl) (Nat.le_of_ble_eq_true rfl) rfl (sp_within _ _ _ _ _) ?_
      refine ur_neB rfl (fun c20 => ?_) (fun c20 => ?_)
      · have t21 := wi_toL c20 l_0 l_1
        refine ur_ldI rfl rfl ?_
        refine ur_push rfl ?_
        refine ur_ldA rfl rfl ?_
        refine ur_get rfl hc1 rfl ?_
        refine ur_inl rfl (rcv_of hc3) (Nat.le_of_ble_eq_true rfl) (Nat.le_of_ble_eq_true rfl) (sf_X6_allGreats hO0  (fun w22 hr23 => ?_))
        obtain ⟨x24, rfl, t25⟩ := hr23
        show uRun _ (uCall Mt _) _ 47 (_, [(.inl x24), (.inl 0), (.inl a3)], _, _, _)
        refine ur_callv rfl rfl (Nat.le_of_ble_eq_true rfl) (Nat.le_of_ble_eq_true rfl) rfl (sp_within _ _ _ _ _) ?_
        refine ur_neB rfl (fun c28 => ?_) (fun c28 => ?_)
        · have t29 := wi_to c28
          refine ur_ldA rfl rfl ?_
          refine ur_get rfl hc1 rfl ?_
          refine ur_ldA rfl rfl ?_
          refine ur_ldI rfl rfl ?_
          refine ur_ldI rfl rfl ?_
          refine ur_inl rfl (rcv_of hc3) (Nat.le_of_ble_eq_true rfl) (Nat.le_of_ble_eq_true rfl) (sf_X6_foretell hO0 k12.1 k12.2 _ _ (fun w30 hr31 => ?_))
          obtain ⟨x32, rfl⟩ := hr31
          show uRun _ (uCall Mt _) _ 67 (_, [(.inl x32)], _, _, _)
          refine ur_svIk [some (.inr (.inr (some 0))), some (.inl a1), some (.inl a2), some (.inl a3), some (.inl a4), some (.inr (.inr (some r11))), some (.inl x32)] rfl rfl ?_
          refine ur_ldI rfl rfl ?_
          refine ur_push rfl ?_
          refine ur_if2 rfl (fun c33 => ?_) (fun c33 => ?_)
          · have t34 := eq_to c33
            refine ur_ldI rfl rfl ?_
            exact ur_ret rfl rfl (hQ _ ⟨_, rfl⟩ )
          · have t35 := eq_no c33
            refine ur_ldI rfl rfl ?_
            refine ur_if1 rfl (fun c36 => ?_) (fun c36 => ?_)
            · have t37 := ne_to c36
              refine ur_ldA rfl rfl ?_
              refine ur_ldI rfl rfl ?_
              obtain ⟨g58, f39, f40, f41, f42, f43, f44, f45, f46, f47, f48, q49, q50, o51, q52, hc38, k53, k54, k55, k56, k57⟩ := hO0.comet k12.2
              refine ur_inl rfl (rcv_of hc38) (Nat.le_of_ble_eq_true rfl) (Nat.le_of_ble_eq_true rfl) (sf_X2_hasReturn hO0 g58 k12.2 _ (fun w59 hr60 => ?_))
              obtain ⟨b61, rfl⟩ := hr60
              show uRun _ (uCall Mt _) _ 90 (_, [(.inl (bi b61))], _, _, _)
              refine ur_eqB rfl (fun c62 => ?_) (fun c62 => ?_)
              · refine ur_push rfl ?_
                exact ur_ret rfl rfl (hQ _ ⟨_, rfl⟩ )
              · refine ur_ldA rfl rfl ?_
                refine ur_ldI rfl rfl ?_
                refine ur_inl rfl (rcv_of hc38) (Nat.le_of_ble_eq_true rfl) (Nat.le_of_ble_eq_true rfl) (sf_X2_passOf hO0 g58 k12.2 _ (fun w63 hr64 => ?_))
                obtain ⟨x65, rfl⟩ := hr64
                show uRun _ (uCall Mt _) _ 99 (_, [(.inl x65)], _, _, _)
                refine ur_ldI rfl rfl ?_
                refine ur_binV rfl (fun x66 e67 => ?_)
                have z68 := any_r x65
                have z69 := any_r x32
                refine ur_go rfl ?_
                exact ur_ret rfl rfl (hQ _ ⟨_, rfl⟩ )
            · have t70 := ne_no c36
              refine ur_ldI rfl rfl ?_
              exact ur_ret rfl rfl (hQ _ ⟨_, rfl⟩ )
        · have t71 := wi_no c28
          refine ur_push rfl ?_
          exact ur_ret rfl rfl (hQ _ ⟨_, rfl⟩ )
      · have t72 := wi_noL c20 l_0 l_1
        refine ur_push rfl ?_
        exact ur_ret rfl rfl (hQ _ ⟨_, rfl⟩ )

set_option maxRecDepth 20000 in
set_option maxHeartbeats 4000000 in
theorem sf_X11_kin {d kc ks : Nat} {h0 : aH} {Q : Option aV → aH → Prop} (hO0 : OK h0) (a1 : Int32) (hQ : ∀ r, (∃ x, r = some (.inl x)) → Q r h0) : uCall Mt (d + 4) 155 [(.inr (.inr (some 0))), (.inl a1)] h0 kc ks Q := by
  have l_m1 : ((-1) : Int32).toInt = -1 := by decide
  refine uc_ink [some (.inr (.inr (some 0))), some (.inl a1)] mt_155 (Nat.le_of_ble_eq_true rfl) rfl ?_
  refine ur_ldA rfl rfl ?_
  obtain ⟨hc1, k2⟩ := ok_0 hO0
  refine ur_get rfl hc1 rfl ?_
  refine ur_ldI rfl rfl ?_
  obtain ⟨f4, f5, hc3, k6⟩ := ok_1 hO0
  refine ur_inl rfl (rcv_of hc3) (Nat.le_of_ble_eq_true rfl) (Nat.le_of_ble_eq_true rfl) (sf_X6_cometAt hO0 _ (fun w7 hr8 => ?_))
  obtain ⟨o9, rfl, k10⟩ := hr8
  show uRun _ (uCall Mt _) _ 8 (_, [(.inr (.inr o9))], _, _, _)
  cases o9 with
  | none =>
    refine ur_nulN rfl ?_
    refine ur_push rfl ?_
    exact ur_ret rfl rfl (hQ _ ⟨_, rfl⟩ )
  | some r11 =>
    refine ur_nulS rfl ?_
    have k12 := k10 _ rfl
    refine ur_ldA rfl rfl ?_
    refine ur_get rfl hc1 rfl ?_
    refine ur_ldI rfl rfl ?_
    refine ur_inl rfl (rcv_of hc3) (Nat.le_of_ble_eq_true rfl) (Nat.le_of_ble_eq_true rfl) (sf_X6_kinOf hO0 _ (fun w13 hr14 => ?_))
    obtain ⟨x15, rfl⟩ := hr14
    show uRun _ (uCall Mt _) _ 21 (_, [(.inl x15)], _, _, _)
    exact ur_ret rfl rfl (hQ _ ⟨_, rfl⟩ )

set_option maxRecDepth 20000 in
set_option maxHeartbeats 4000000 in
theorem sf_X11_trace {d kc ks : Nat} {h0 : aH} {Q : Option aV → aH → Prop} (hO0 : OK h0) (a1 : Int32) (hQ : ∀ r, (∃ x, r = some (.inl x)) → Q r h0) : uCall Mt (d + 2) 158 [(.inr (.inr (some 0))), (.inl a1)] h0 kc ks Q := by
  refine uc_ink [some (.inr (.inr (some 0))), some (.inl a1)] mt_158 (Nat.le_of_ble_eq_true rfl) rfl ?_
  refine ur_ldA rfl rfl ?_
  obtain ⟨hc1, k2⟩ := ok_0 hO0
  refine ur_get rfl hc1 rfl ?_
  refine ur_ldI rfl rfl ?_
  obtain ⟨f4, hc3, k5⟩ := ok_55 hO0
  refine ur_inl rfl (rcv_of hc3) (Nat.le_of_ble_eq_true rfl) (Nat.le_of_ble_eq_true rfl) (sf_X0_bodyAt hO0 _ (fun w6 hr7 => ?_))
  obtain ⟨x8, rfl⟩ := hr7
  show uRun _ (uCall Mt _) _ 8 (_, [(.inl x8)], _, _, _)
  exact ur_ret rfl rfl (hQ _ ⟨_, rfl⟩ )

end CT1
