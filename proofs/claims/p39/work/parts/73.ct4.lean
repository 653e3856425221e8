/-! CONTRACTS of the class, the third part, printed by program -/
section CT4
set_option maxRecDepth 20000 in
set_option maxHeartbeats 4000000 in
theorem sf_J6_bitCount_0f7a4 {d kc ks : Nat} {h0 : aH} {Q : Option aV → aH → Prop} (a0 : Int32) (hQ : ∀ r, (∃ x, r = some (.inl x)) → Q r h0) : uCall Mt (d + 1) 304 [(.inl a0)] h0 kc ks Q := by
  have l_1 : ((1) : Int32).toInt = 1 := by decide
  have l_2 : ((2) : Int32).toInt = 2 := by decide
  have l_4 : ((4) : Int32).toInt = 4 := by decide
  have l_8 : ((8) : Int32).toInt = 8 := by decide
  have l_16 : ((16) : Int32).toInt = 16 := by decide
  have l_63 : ((63) : Int32).toInt = 63 := by decide
  have l_252645135 : ((252645135) : Int32).toInt = 252645135 := by decide
  have l_858993459 : ((858993459) : Int32).toInt = 858993459 := by decide
  have l_1431655765 : ((1431655765) : Int32).toInt = 1431655765 := by decide
  refine uc_ink [some (.inl a0)] mt_304 (Nat.le_of_ble_eq_true rfl) rfl ?_
  refine ur_ldI rfl rfl ?_
  refine ur_ldI rfl rfl ?_
  refine ur_push rfl ?_
  refine ur_binV rfl (fun x1 e2 => ?_)
  refine ur_push rfl ?_
  refine ur_binV rfl (fun x3 e4 => ?_)
  refine ur_binV rfl (fun x5 e6 => ?_)
  have z7 := any_r a0
  have z8 := any_r x3
  refine ur_svIk [some (.inl x5)] rfl rfl ?_
  refine ur_ldI rfl rfl ?_
  refine ur_push rfl ?_
  refine ur_binV rfl (fun x9 e10 => ?_)
  refine ur_ldI rfl rfl ?_
  refine ur_push rfl ?_
  refine ur_binV rfl (fun x11 e12 => ?_)
  refine ur_push rfl ?_
  refine ur_binV rfl (fun x13 e14 => ?_)
  refine ur_binV rfl (fun x15 e16 => ?_)
  have z17 := any_r x9
  have z18 := any_r x13
  refine ur_svIk [some (.inl x15)] rfl rfl ?_
  refine ur_ldI rfl rfl ?_
  refine ur_ldI rfl rfl ?_
  refine ur_push rfl ?_
  refine ur_binV rfl (fun x19 e20 => ?_)
  refine ur_binV rfl (fun x21 e22 => ?_)
  have z23 := any_r x15
  have z24 := any_r x19
  refine ur_push rfl ?_
  refine ur_binV rfl (fun x25 e26 => ?_)
  refine ur_svIk [some (.inl x25)] rfl rfl ?_
  refine ur_ldI rfl rfl ?_
  refine ur_ldI rfl rfl ?_
  refine ur_push rfl ?_
  refine ur_binV rfl (fun x27 e28 => ?_)
  refine ur_binV rfl (fun x29 e30 => ?_)
  have z31 := any_r x25
  have z32 := any_r x27
  refine ur_svIk [some (.inl x29)] rfl rfl ?_
  refine ur_ldI rfl rfl ?_
  refine ur_ldI rfl rfl ?_
  refine ur_push rfl ?_
  refine ur_binV rfl (fun x33 e34 => ?_)
  refine ur_binV rfl (fun x35 e36 => ?_)
  have z37 := any_r x29
  have z38 := any_r x33
  refine ur_svIk [some (.inl x35)] rfl rfl ?_
  refine ur_ldI rfl rfl ?_
  refine ur_push rfl ?_
  refine ur_binV rfl (fun x39 e40 => ?_)
  exact ur_ret rfl rfl (hQ _ ⟨_, rfl⟩ )

set_option maxRecDepth 20000 in
set_option maxHeartbeats 4000000 in
theorem sf_J13_bitCount_95d88 {d kc ks : Nat} {h0 : aH} {Q : Option aV → aH → Prop} (a0 : Int64) (hQ : ∀ r, (∃ x, r = some (.inl x)) → Q r h0) : uCall Mt (d + 1) 305 [(.inr (.inl a0))] h0 kc ks Q := by
  have l_1 : ((1) : Int32).toInt = 1 := by decide
  have l_2 : ((2) : Int32).toInt = 2 := by decide
  have l_4 : ((4) : Int32).toInt = 4 := by decide
  have l_8 : ((8) : Int32).toInt = 8 := by decide
  have l_16 : ((16) : Int32).toInt = 16 := by decide
  have l_32 : ((32) : Int32).toInt = 32 := by decide
  have l_127 : ((127) : Int32).toInt = 127 := by decide
  refine uc_ink [some (.inr (.inl a0)), none] mt_305 (Nat.le_of_ble_eq_true rfl) rfl ?_
  refine ur_ldJ rfl rfl ?_
  refine ur_ldJ rfl rfl ?_
  refine ur_push rfl ?_
  refine ur_shJV rfl (fun y1 e2 => ?_)
  refine ur_push rfl ?_
  refine ur_binJV rfl (fun y3 e4 => ?_)
  refine ur_binJV rfl (fun y5 e6 => ?_)
  refine ur_svJk [some (.inr (.inl y5)), none] rfl rfl ?_
  refine ur_ldJ rfl rfl ?_
  refine ur_push rfl ?_
  refine ur_binJV rfl (fun y7 e8 => ?_)
  refine ur_ldJ rfl rfl ?_
  refine ur_push rfl ?_
  refine ur_shJV rfl (fun y9 e10 => ?_)
  refine ur_push rfl ?_
  refine ur_binJV rfl (fun y11 e12 => ?_)
  refine ur_binJV rfl (fun y13 e14 => ?_)
  refine ur_svJk [some (.inr (.inl y13)), none] rfl rfl ?_
  refine ur_ldJ rfl rfl ?_
  refine ur_ldJ rfl rfl ?_
  refine ur_push rfl ?_
  refine ur_shJV rfl (fun y15 e16 => ?_)
  refine ur_binJV rfl (fun y17 e18 => ?_)
  refine ur_push rfl ?_
  refine ur_binJV rfl (fun y19 e20 => ?_)
  refine ur_svJk [some (.inr (.inl y19)), none] rfl rfl ?_
  refine ur_ldJ rfl rfl ?_
  refine ur_ldJ rfl rfl ?_
  refine ur_push rfl ?_
  refine ur_shJV rfl (fun y21 e22 => ?_)
  refine ur_binJV rfl (fun y23 e24 => ?_)
  refine ur_svJk [some (.inr (.inl y23)), none] rfl rfl ?_
  refine ur_ldJ rfl rfl ?_
  refine ur_ldJ rfl rfl ?_
  refine ur_push rfl ?_
  refine ur_shJV rfl (fun y25 e26 => ?_)
  refine ur_binJV rfl (fun y27 e28 => ?_)
  refine ur_svJk [some (.inr (.inl y27)), none] rfl rfl ?_
  refine ur_ldJ rfl rfl ?_
  refine ur_ldJ rfl rfl ?_
  refine ur_push rfl ?_
  refine ur_shJV rfl (fun y29 e30 => ?_)
  refine ur_binJV rfl (fun y31 e32 => ?_)
  refine ur_svJk [some (.inr (.inl y31)), none] rfl rfl ?_
  refine ur_ldJ rfl rfl ?_
  refine ur_l2iV rfl (fun x33 e34 => ?_)
  refine ur_push rfl ?_
  refine ur_binV rfl (fun x35 e36 => ?_)
  exact ur_ret rfl rfl (hQ _ ⟨_, rfl⟩ )

set_option maxRecDepth 20000 in
set_option maxHeartbeats 4000000 in
theorem sf_X5_sightsOf {d kc ks : Nat} {h0 : aH} {Q : Option aV → aH → Prop} (hO0 : OK h0) {a1 : Nat} (g1 : 114 ≤ a1) (t1 : tg h0 a1 = (102, 14)) (a2 : Int32) (hQ : ∀ r h', (∃ z, r = some (.inr (.inr (some z))) ∧ 114 ≤ z ∧ tg h' z = (4, 8712)) → OK h' → un [222, 223, 21212] h0 h' → Q r h') : uCall Mt (d + 3) 52 [(.inr (.inr (some 8))), (.inr (.inr (some a1))), (.inl a2)] h0 kc ks Q := by
  have l_0 : ((0) : Int32).toInt = 0 := by decide
  have l_1 : ((1) : Int32).toInt = 1 := by decide
  have l_8 : ((8) : Int32).toInt = 8 := by decide
  have l_121 : ((121) : Int32).toInt = 121 := by decide
  have l_8712 : ((8712) : Int32).toInt = 8712 := by decide
  refine uc_ink [some (.inr (.inr (some 8))), some (.inr (.inr (some a1))), some (.inl a2), none, none, none] mt_52 (Nat.le_of_ble_eq_true rfl) rfl ?_
  refine ur_ldA rfl rfl ?_
  obtain ⟨g21, f2, f3, f4, f5, f6, f7, f8, f9, f10, f11, q12, q13, o14, q15, hc1, k16, k17, k18, k19, k20⟩ := hO0.comet t1
  refine ur_get rfl hc1 rfl ?_
  cases o14 with
  | none =>
    refine ur_nulN rfl ?_
    refine ur_ldA rfl rfl ?_
    refine ur_push rfl ?_
    refine ur_newSg (W := [222, 223, 21212]) rfl rfl (fun _ => rfl) hO0 hc1 rfl (by decide) (fun h26 r23 hO26 hu26 hc24 k25 => ?_)
    refine ur_ldA rfl rfl ?_
    refine ur_get rfl hc24 rfl ?_
    refine ur_svAk [some (.inr (.inr (some 8))), some (.inr (.inr (some a1))), some (.inl a2), some (.inr (.inr (some r23))), none, none] rfl rfl ?_
    refine ur_ldI rfl rfl ?_
    refine ur_callv rfl rfl (Nat.le_of_ble_eq_true rfl) (Nat.le_of_ble_eq_true rfl) rfl (sp_isPpl _ _) ?_
    refine ur_eqB rfl (fun c29 => ?_) (fun c29 => ?_)
    · have t30 := wi_noL c29 l_0 l_8
      refine ur_ldA rfl rfl ?_
      exact ur_ret rfl rfl (hQ _ _ ⟨_, rfl, k25.1, k25.2⟩ hO26 hu26)
    · have t31 := wi_toL c29 l_0 l_8
      refine ur_ldA rfl rfl ?_
      refine ur_get rfl hc24 rfl ?_
      refine ur_ldI rfl rfl ?_
      obtain ⟨xs33, hc32, hn34, he35⟩ := hO26.int (hu26.tm k19.2 (by decide))
      refine ur_aldV rfl hc32 hn34 (by omega) (fun x36 hx37 => ?_)
      refine ur_ldA rfl rfl ?_
      obtain ⟨f39, hc38, k40⟩ := ok_8 hO26
      refine ur_get rfl hc38 rfl ?_
      have z41 := any_r x36
      have z42 := any_r f39
      refine ur_if2 rfl (fun c43 => ?_) (fun c43 => ?_)
      · have t44 := eq_to c43
        refine ur_ldA rfl rfl ?_
        exact ur_ret rfl rfl (hQ _ _ ⟨_, rfl, k25.1, k25.2⟩ hO26 hu26)
      · have t45 := eq_no c43
        refine ur_ldA rfl rfl ?_
        refine ur_get rfl hc24 rfl ?_
        refine ur_ldI rfl rfl ?_
        refine ur_ldA rfl rfl ?_
        refine ur_get rfl hc38 rfl ?_
        refine ur_astV (W := [222, 223, 21212]) (m := 9) rfl hO26 hc32 (by decide) hn34 (by omega) (any_d k19.1 _) (Or.inr (Or.inr (wid_ver k19.1 (by decide)))) (fun h48 hO48 hu48 d46 hc47 => ?_)
        refine ur_ldI rfl rfl ?_
        refine ur_push rfl ?_
        refine ur_binV rfl (fun x49 e50 => ?_)
        have z51 := any_r a2
        have t52 := ti_add e50 (by omega) (by omega)
        refine ur_push rfl ?_
        refine ur_binV rfl (fun x53 e54 => ?_)
        have z55 := any_r x49
        have t56 := ti_mulL e54 l_121 (by omega) (by omega)
        refine ur_push rfl ?_
        refine ur_binV rfl (fun x57 e58 => ?_)
        have z59 := any_r x53
        have t60 := ti_mulL e58 l_8 (by omega) (by omega)
        refine ur_ldA rfl rfl ?_
        obtain ⟨xs62, hc61, hn63⟩ := hO48.lon (hu48.tm k25.2 (by decide))
        refine ur_lenV (m := 8712) rfl hc61 hn63 (by decide) (fun x65 t66 => ?_)
        refine ur_minV rfl (by show ¬ 9 ≤ 2; decide) (fun x67 t68 e69 => ?_)
        refine ur_svIk [some (.inr (.inr (some 8))), some (.inr (.inr (some a1))), some (.inl a2), some (.inr (.inr (some r23))), some (.inl x67), none] rfl rfl ?_
        refine ur_ldI rfl rfl ?_
        refine ur_push rfl ?_
        refine ur_binV rfl (fun x70 e71 => ?_)
        have t72 := ti_mulL e71 l_121 (by omega) (by omega)
        refine ur_push rfl ?_
        refine ur_binV rfl (fun x73 e74 => ?_)
        have z75 := any_r x70
        have t76 := ti_mulL e74 l_8 (by omega) (by omega)
        refine ur_svIk [some (.inr (.inr (some 8))), some (.inr (.inr (some a1))), some (.inl a2), some (.inr (.inr (some r23))), some (.inl x67), some (.inl x73)] rfl rfl ?_
        have L78 : ∀ (m79 : Nat) (x77 : Int32) (h81 : aH) , OK h81 → un [222, 223, 21212] h48 h81 → ((0 ≤ x77.toInt ∧ x77.toInt ≤ 2147483647)) → ((2147483648 - x77.toInt).toNat) < m79 → uRun oX5_sightsOf (uCall Mt (d + 2)) Q 76 ([some (.inr (.inr (some 8))), some (.inr (.inr (some a1))), some (.inl a2), some (.inr (.inr (some r23))), some (.inl x67), some (.inl x77)], [], h81, kc, ks) := by
          intro m79
          induction m79 with
          | zero => intro x77 h81 hO81 hu81 iv82 mm83; omega
          | succ m79 ih80 =>
            intro x77 h81 hO81 hu81 iv82 mm83
            refine ur_ldI rfl rfl ?_
            refine ur_ldI rfl rfl ?_
            have z84 := any_r x77
            have z85 := any_r x67
            refine ur_if2 rfl (fun c86 => ?_) (fun c86 => ?_)
            · have t87 := le_to c86
              refine ur_ldA rfl rfl ?_
              exact ur_ret rfl rfl (hQ _ _ ⟨_, rfl, k25.1, (hu81.tm (hu48.tm k25.2 (by decide)) (by decide))⟩ hO81 (hu26.tr (hu48.tr hu81)))
            · have t88 := le_no c86
              refine ur_ldA rfl rfl ?_
              refine ur_ldI rfl rfl ?_
              refine ur_push rfl ?_
              obtain ⟨xs90, hc89, hn91⟩ := hO81.lon (hu81.tm (hu48.tm k25.2 (by decide)) (by decide))
              refine ur_astJV (W := [222, 223, 21212]) (m := 8712) rfl hO81 hc89 hn91 (by omega) (Or.inr (Or.inr (wid_sig k25.1 (by decide)))) (fun h95 hO95 hu95 d93 hc94 => ?_)
              refine ur_incV (fun z => [some (.inr (.inr (some 8))), some (.inr (.inr (some a1))), some (.inl a2), some (.inr (.inr (some r23))), some (.inl x67), some (.inl z)]) rfl rfl (fun _ => rfl) (fun x96 e97 => ?_)
              have t98 := ti_add e97 (by omega) (by omega)
              refine ur_go rfl ?_
              have z99 := any_r x96
              exact ih80 x96 _ hO95 (hu81.tr hu95) (by omega) (by omega)
        have z100 := any_r x73
        exact L78 _ x73 _ hO48 un.rf (by omega) (Nat.lt_succ_self _)
  | some r22 =>
    refine ur_nulS rfl ?_
    have k101 := k18 _ rfl
    refine ur_ldA rfl rfl ?_
    refine ur_get rfl hc1 rfl ?_
    refine ur_svAk [some (.inr (.inr (some 8))), some (.inr (.inr (some a1))), some (.inl a2), some (.inr (.inr (some r22))), none, none] rfl rfl ?_
    refine ur_ldI rfl rfl ?_
    refine ur_callv rfl rfl (Nat.le_of_ble_eq_true rfl) (Nat.le_of_ble_eq_true rfl) rfl (sp_isPpl _ _) ?_
    refine ur_eqB rfl (fun c104 => ?_) (fun c104 => ?_)
    · have t105 := wi_noL c104 l_0 l_8
      refine ur_ldA rfl rfl ?_
      exact ur_ret rfl rfl (hQ _ _ ⟨_, rfl, k101.1, k101.2⟩ hO0 un.rf)
    · have t106 := wi_toL c104 l_0 l_8
      refine ur_ldA rfl rfl ?_
      refine ur_get rfl hc1 rfl ?_
      refine ur_ldI rfl rfl ?_
      obtain ⟨xs108, hc107, hn109, he110⟩ := hO0.int k19.2
      refine ur_aldV rfl hc107 hn109 (by omega) (fun x111 hx112 => ?_)
      refine ur_ldA rfl rfl ?_
      obtain ⟨f114, hc113, k115⟩ := ok_8 hO0
      refine ur_get rfl hc113 rfl ?_
      have z116 := any_r x111
      have z117 := any_r f114
      refine ur_if2 rfl (fun c118 => ?_) (fun c118 => ?_)
      · have t119 := eq_to c118
        refine ur_ldA rfl rfl ?_
        exact ur_ret rfl rfl (hQ _ _ ⟨_, rfl, k101.1, k101.2⟩ hO0 un.rf)
      · have t120 := eq_no c118
        refine ur_ldA rfl rfl ?_
        refine ur_get rfl hc1 rfl ?_
        refine ur_ldI rfl rfl ?_
        refine ur_ldA rfl rfl ?_
        refine ur_get rfl hc113 rfl ?_
        refine ur_astV (W := [222, 223, 21212]) (m := 9) rfl hO0 hc107 (by decide) hn109 (by omega) (any_d k19.1 _) (Or.inr (Or.inr (wid_ver k19.1 (by decide)))) (fun h123 hO123 hu123 d121 hc122 => ?_)
        refine ur_ldI rfl rfl ?_
        refine ur_push rfl ?_
        refine ur_binV rfl (fun x124 e125 => ?_)
        have z126 := any_r a2
        have t127 := ti_add e125 (by omega) (by omega)
        refine ur_push rfl ?_
        refine ur_binV rfl (fun x128 e129 => ?_)
        have z130 := any_r x124
        have t131 := ti_mulL e129 l_121 (by omega) (by omega)
        refine ur_push rfl ?_
        refine ur_binV rfl (fun x132 e133 => ?_)
        have z134 := any_r x128
        have t135 := ti_mulL e133 l_8 (by omega) (by omega)
        refine ur_ldA rfl rfl ?_
        obtain ⟨xs137, hc136, hn138⟩ := hO123.lon (hu123.tm k101.2 (by decide))
        refine ur_lenV (m := 8712) rfl hc136 hn138 (by decide) (fun x140 t141 => ?_)
        refine ur_minV rfl (by show ¬ 9 ≤ 2; decide) (fun x142 t143 e144 => ?_)
        refine ur_svIk [some (.inr (.inr (some 8))), some (.inr (.inr (some a1))), some (.inl a2), some (.inr (.inr (some r22))), some (.inl x142), none] rfl rfl ?_
        refine ur_ldI rfl rfl ?_
        refine ur_push rfl ?_
        refine ur_binV rfl (fun x145 e146 => ?_)
        have t147 := ti_mulL e146 l_121 (by omega) (by omega)
        refine ur_push rfl ?_
        refine ur_binV rfl (fun x148 e149 => ?_)
        have z150 := any_r x145
        have t151 := ti_mulL e149 l_8 (by omega) (by omega)
        refine ur_svIk [some (.inr (.inr (some 8))), some (.inr (.inr (some a1))), some (.inl a2), some (.inr (.inr (some r22))), some (.inl x142), some (.inl x148)] rfl rfl ?_
        have L153 : ∀ (m154 : Nat) (x152 : Int32) (h156 : aH) , OK h156 → un [222, 223, 21212] h123 h156 → ((0 ≤ x152.toInt ∧ x152.toInt ≤ 2147483647)) → ((2147483648 - x152.toInt).toNat) < m154 → uRun oX5_sightsOf (uCall Mt (d + 2)) Q 76 ([some (.inr (.inr (some 8))), some (.inr (.inr (some a1))), some (.inl a2), some (.inr (.inr (some r22))), some (.inl x142), some (.inl x152)], [], h156, kc, ks) := by
          intro m154
          induction m154 with
          | zero => intro x152 h156 hO156 hu156 iv157 mm158; omega
          | succ m154 ih155 =>
            intro x152 h156 hO156 hu156 iv157 mm158
            refine ur_ldI rfl rfl ?_
            refine ur_ldI rfl rfl ?_
            have z159 := any_r x152
            have z160 := any_r x142
            refine ur_if2 rfl (fun c161 => ?_) (fun c161 => ?_)
            · have t162 := le_to c161
              refine ur_ldA rfl rfl ?_
              exact ur_ret rfl rfl (hQ _ _ ⟨_, rfl, k101.1, (hu156.tm (hu123.tm k101.2 (by decide)) (by decide))⟩ hO156 (hu123.tr hu156))
            · have t163 := le_no c161
              refine ur_ldA rfl rfl ?_
              refine ur_ldI rfl rfl ?_
              refine ur_push rfl ?_
              obtain ⟨xs165, hc164, hn166⟩ := hO156.lon (hu156.tm (hu123.tm k101.2 (by decide)) (by decide))
              refine ur_astJV (W := [222, 223, 21212]) (m := 8712) rfl hO156 hc164 hn166 (by omega) (Or.inr (Or.inr (wid_sig k101.1 (by decide)))) (fun h170 hO170 hu170 d168 hc169 => ?_)
              refine ur_incV (fun z => [some (.inr (.inr (some 8))), some (.inr (.inr (some a1))), some (.inl a2), some (.inr (.inr (some r22))), some (.inl x142), some (.inl z)]) rfl rfl (fun _ => rfl) (fun x171 e172 => ?_)
              have t173 := ti_add e172 (by omega) (by omega)
              refine ur_go rfl ?_
              have z174 := any_r x171
              exact ih155 x171 _ hO170 (hu156.tr hu170) (by omega) (by omega)
        have z175 := any_r x148
        exact L153 _ x148 _ hO123 un.rf (by omega) (Nat.lt_succ_self _)

set_option maxRecDepth 20000 in
set_option maxHeartbeats 4000000 in
theorem sf_X5_seenOn {d kc ks : Nat} {h0 : aH} {Q : Option aV → aH → Prop} (hO0 : OK h0) {a1 : Nat} (g1 : 114 ≤ a1) (t1 : tg h0 a1 = (102, 14)) (a2 : Int32) (b2 : 0 ≤ a2.toInt ∧ a2.toInt ≤ 8) (a3 : Int32) (b3 : -60 ≤ a3.toInt ∧ a3.toInt ≤ 60) (a4 : Int32) (a5 : Int32) (hQ : ∀ r h', (∃ q, r = some (.inl (bi q))) → OK h' → un [222, 223, 21212] h0 h' → Q r h') : uCall Mt (d + 4) 51 [(.inr (.inr (some 8))), (.inr (.inr (some a1))), (.inl a2), (.inl a3), (.inl a4), (.inl a5)] h0 kc ks Q := by
  have l_m120 : ((-120) : Int32).toInt = -120 := by decide
  have l_0 : ((0) : Int32).toInt = 0 := by decide
  have l_1 : ((1) : Int32).toInt = 1 := by decide
  have l_4 : ((4) : Int32).toInt = 4 := by decide
  have l_8 : ((8) : Int32).toInt = 8 := by decide
  have l_15 : ((15) : Int32).toInt = 15 := by decide
  have l_60 : ((60) : Int32).toInt = 60 := by decide
  have l_63 : ((63) : Int32).toInt = 63 := by decide
  have l_64 : ((64) : Int32).toInt = 64 := by decide
  have l_120 : ((120) : Int32).toInt = 120 := by decide
  have l_121 : ((121) : Int32).toInt = 121 := by decide
  refine uc_ink [some (.inr (.inr (some 8))), some (.inr (.inr (some a1))), some (.inl a2), some (.inl a3), some (.inl a4), some (.inl a5), none, none, none, none, none] mt_51 (Nat.le_of_ble_eq_true rfl) rfl ?_
  refine ur_ldI rfl rfl ?_
  refine ur_ldA rfl rfl ?_
  refine ur_ldI rfl rfl ?_
  obtain ⟨g21, f2, f3, f4, f5, f6, f7, f8, f9, f10, f11, q12, q13, o14, q15, hc1, k16, k17, k18, k19, k20⟩ := hO0.comet t1
  refine ur_inl rfl (rcv_of hc1) (Nat.le_of_ble_eq_true rfl) (Nat.le_of_ble_eq_true rfl) (sf_X2_passOf hO0 g21 t1 _ (fun w22 hr23 => ?_))
  obtain ⟨x24, rfl⟩ := hr23
  show uRun _ (uCall Mt _) _ 7 (_, [(.inl x24), (.inl a5)], _, _, _)
  refine ur_binV rfl (fun x25 e26 => ?_)
  have z27 := any_r a5
  have z28 := any_r x24
  refine ur_ldI rfl rfl ?_
  refine ur_binV rfl (fun x29 e30 => ?_)
  have z31 := any_r x25
  have z32 := any_r a4
  refine ur_svIk [some (.inr (.inr (some 8))), some (.inr (.inr (some a1))), some (.inl a2), some (.inl a3), some (.inl a4), some (.inl a5), some (.inl x29), none, none, none, none] rfl rfl ?_
  refine ur_ldI rfl rfl ?_
  refine ur_callv rfl rfl (Nat.le_of_ble_eq_true rfl) (Nat.le_of_ble_eq_true rfl) rfl (sp_isFar _ _) ?_
  refine ur_neB rfl (fun c35 => ?_) (fun c35 => ?_)
  · have t36 := wi_noL (bnot_f c35) l_m120 l_120
    refine ur_push rfl ?_
    exact ur_ret rfl rfl (hQ _ _ ⟨false, rfl⟩ hO0 un.rf)
  · have t37 := wi_toL (bnot_t c35) l_m120 l_120
    refine ur_ldA rfl rfl ?_
    refine ur_ldI rfl rfl ?_
    refine ur_ldI rfl rfl ?_
    refine ur_inl rfl (rcv_of hc1) (Nat.le_of_ble_eq_true rfl) (Nat.le_of_ble_eq_true rfl) (sf_X2_apartOfSun hO0 g21 t1 _ _ (fun w38 hr39 => ?_))
    obtain ⟨x40, rfl⟩ := hr39
    show uRun _ (uCall Mt _) _ 29 (_, [(.inl x40)], _, _, _)
    refine ur_push rfl ?_
    refine ur_if2 rfl (fun c41 => ?_) (fun c41 => ?_)
    · have t42 := le_to c41
      refine ur_ldA rfl rfl ?_
      obtain ⟨f44, hc43, k45⟩ := ok_8 hO0
      refine ur_get rfl hc43 rfl ?_
      obtain ⟨g50, f47, hc46, k48, k49⟩ := hO0.text (hO0.fix 9 (by decide) rfl)
      refine ur_inl rfl (rcv_of hc46) (Nat.le_of_ble_eq_true rfl) (Nat.le_of_ble_eq_true rfl) (sf_X9_isTold hO0 (hO0.fix 9 (by decide) rfl) (fun w51 hr52 => ?_))
      obtain ⟨b53, rfl⟩ := hr52
      show uRun _ (uCall Mt _) _ 43 (_, [(.inl (bi b53))], _, _, _)
      refine ur_neB rfl (fun c54 => ?_) (fun c54 => ?_)
      · refine ur_ldA rfl rfl ?_
        refine ur_ldA rfl rfl ?_
        refine ur_ldI rfl rfl ?_
        refine ur_inl rfl (rcv_of hc43) (Nat.le_of_ble_eq_true rfl) (Nat.le_of_ble_eq_true rfl) (sf_X5_sightsOf hO0 g21 t1 _ (fun w55 h57 hr56 hO57 hv57 => ?_))
        have hu57 := hv57
        obtain ⟨r58, rfl, k59⟩ := hr56
        show uRun _ (uCall Mt _) _ 54 (_, [(.inr (.inr (some r58)))], _, _, _)
        refine ur_svAk [some (.inr (.inr (some 8))), some (.inr (.inr (some a1))), some (.inl a2), some (.inl a3), some (.inl a4), some (.inl a5), some (.inl x29), some (.inr (.inr (some r58))), none, none, none] rfl rfl ?_
        refine ur_ldI rfl rfl ?_
        refine ur_push rfl ?_
        refine ur_binV rfl (fun x60 e61 => ?_)
        have z62 := any_r a2
        have t63 := ti_mulL e61 l_121 (by omega) (by omega)
        refine ur_ldI rfl rfl ?_
        refine ur_binV rfl (fun x64 e65 => ?_)
        have z66 := any_r x60
        have z67 := any_r a3
        have t68 := ti_add e65 (by omega) (by omega)
        refine ur_push rfl ?_
        refine ur_binV rfl (fun x69 e70 => ?_)
        have z71 := any_r x64
        have t72 := ti_add e70 (by omega) (by omega)
        refine ur_push rfl ?_
        refine ur_binV rfl (fun x73 e74 => ?_)
        have z75 := any_r x69
        have t76 := ti_mulL e74 l_8 (by omega) (by omega)
        refine ur_ldI rfl rfl ?_
        refine ur_push rfl ?_
        refine ur_binV rfl (fun x77 e78 => ?_)
        have z79 := any_r x29
        have t80 := ti_add e78 (by omega) (by omega)
        refine ur_push rfl ?_
        refine ur_divV rfl (by decide) (fun x81 e82 => ?_)
        have z83 := any_r x77
        have t84 := ti_div e82 l_64 (by decide) (by omega)
        refine ur_binV rfl (fun x85 e86 => ?_)
        have z87 := any_r x73
        have z88 := any_r x81
        have t89 := ti_add e86 (by omega) (by omega)
        refine ur_svIk [some (.inr (.inr (some 8))), some (.inr (.inr (some a1))), some (.inl a2), some (.inl a3), some (.inl a4), some (.inl a5), some (.inl x29), some (.inr (.inr (some r58))), some (.inl x85), none, none] rfl rfl ?_
        refine ur_ldI rfl rfl ?_
        refine ur_if1 rfl (fun c90 => ?_) (fun c90 => ?_)
        · have t91 := ne_to c90
          refine ur_ldA rfl rfl ?_
          refine ur_ldA rfl rfl ?_
          refine ur_get rfl (hv57.ko (n := 5) hc43 rfl (wid_f (by decide)) (by decide)) rfl ?_
          refine ur_ldA rfl rfl ?_
          refine ur_ldI rfl rfl ?_
          refine ur_ldI rfl rfl ?_
          refine ur_ldI rfl rfl ?_
          refine ur_inl rfl (rcv_of (hv57.ko (n := 5) hc43 rfl (wid_f (by decide)) (by decide))) (Nat.le_of_ble_eq_true rfl) (Nat.le_of_ble_eq_true rfl) (sf_X5_toldBy hO57 (hO57.fix 9 (by decide) rfl) g21 (hu57.tm t1 (by decide)) _ _ _ (fun w92 h94 hr93 hO94 hv94 => ?_))
          have hu94 : un [222, 223, 21212] h57 h94 := hv94.mono (by decide)
          obtain ⟨x95, rfl⟩ := hr93
          show uRun _ (uCall Mt _) _ 113 (_, [(.inl x95)], _, _, _)
          refine ur_if1 rfl (fun c96 => ?_) (fun c96 => ?_)
          · have t97 := eq_to c96
            refine ur_push rfl ?_
            exact ur_ret rfl rfl (hQ _ _ ⟨false, rfl⟩ hO94 (hu57.tr hu94))
          · have t98 := eq_no c96
            refine ur_push rfl ?_
            refine ur_go rfl ?_
            exact ur_ret rfl rfl (hQ _ _ ⟨true, rfl⟩ hO94 (hu57.tr hu94))
        · have t99 := ne_no c90
          refine ur_ldI rfl rfl ?_
          refine ur_if1 rfl (fun c100 => ?_) (fun c100 => ?_)
          · have t101 := lt_to c100
            exfalso
            omega
          · have t102 := lt_no c100
            refine ur_ldI rfl rfl ?_
            refine ur_push rfl ?_
            refine ur_binV rfl (fun x103 e104 => ?_)
            have z105 := any_r x85
            have t106 := ti_add e104 (by omega) (by omega)
            refine ur_ldA rfl rfl ?_
            obtain ⟨xs108, hc107, hn109⟩ := hO57.lon k59.2
            refine ur_lenV (m := 8712) rfl hc107 hn109 (by decide) (fun x111 t112 => ?_)
            have z113 := any_r x103
            have z114 := any_r x111
            refine ur_if2 rfl (fun c115 => ?_) (fun c115 => ?_)
            · have t116 := lt_to c115
              refine ur_push rfl ?_
              refine ur_ldI rfl rfl ?_
              refine ur_push rfl ?_
              refine ur_binV rfl (fun x117 e118 => ?_)
              have t119 := ti_add e118 (by omega) (by omega)
              refine ur_push rfl ?_
              refine ur_binV rfl (fun x120 e121 => ?_)
              refine ur_shJV rfl (fun y122 e123 => ?_)
              refine ur_svJk [some (.inr (.inr (some 8))), some (.inr (.inr (some a1))), some (.inl a2), some (.inl a3), some (.inl a4), some (.inl a5), some (.inl x29), some (.inr (.inr (some r58))), some (.inl x85), some (.inr (.inl y122)), none] rfl rfl ?_
              refine ur_ldA rfl rfl ?_
              refine ur_ldI rfl rfl ?_
              refine ur_aldJV rfl hc107 hn109 (by omega) (fun y124 hx125 => ?_)
              refine ur_ldJ rfl rfl ?_
              refine ur_binJV rfl (fun y126 e127 => ?_)
              refine ur_push rfl ?_
              refine ur_cmpJV rfl (fun x128 e129 => ?_)
              refine ur_if1 rfl (fun c130 => ?_) (fun c130 => ?_)
              · have t131 := ne_to c130
                refine ur_ldA rfl rfl ?_
                refine ur_ldI rfl rfl ?_
                refine ur_push rfl ?_
                refine ur_binV rfl (fun x132 e133 => ?_)
                have t134 := ti_add e133 (by omega) (by omega)
                refine ur_aldJV rfl hc107 hn109 (by omega) (fun y135 hx136 => ?_)
                refine ur_ldJ rfl rfl ?_
                refine ur_binJV rfl (fun y137 e138 => ?_)
                refine ur_push rfl ?_
                refine ur_cmpJV rfl (fun x139 e140 => ?_)
                refine ur_if1 rfl (fun c141 => ?_) (fun c141 => ?_)
                · have t142 := eq_to c141
                  refine ur_push rfl ?_
                  exact ur_ret rfl rfl (hQ _ _ ⟨false, rfl⟩ hO57 hu57)
                · have t143 := eq_no c141
                  refine ur_push rfl ?_
                  refine ur_go rfl ?_
                  exact ur_ret rfl rfl (hQ _ _ ⟨true, rfl⟩ hO57 hu57)
              · have t144 := ne_no c130
                refine ur_ldA rfl rfl ?_
                refine ur_ldI rfl rfl ?_
                refine ur_dup2 rfl rfl rfl ?_
                refine ur_aldJV rfl hc107 hn109 (by omega) (fun y145 hx146 => ?_)
                refine ur_ldJ rfl rfl ?_
                refine ur_binJV rfl (fun y147 e148 => ?_)
                refine ur_astJV (W := [222, 223, 21212]) (m := 8712) rfl hO57 hc107 hn109 (by omega) (Or.inr (Or.inr (wid_sig k59.1 (by decide)))) (fun h151 hO151 hu151 d149 hc150 => ?_)
                refine ur_ldA rfl rfl ?_
                refine ur_ldA rfl rfl ?_
                refine ur_get rfl ((d149 _ (ne_tg (hO151.fix 8 (by decide) rfl) (hu151.tm k59.2 (by decide)) (by decide))).trans (hv57.ko (n := 5) hc43 rfl (wid_f (by decide)) (by decide))) rfl ?_
                refine ur_ldA rfl rfl ?_
                refine ur_ldI rfl rfl ?_
                refine ur_ldI rfl rfl ?_
                refine ur_ldI rfl rfl ?_
                refine ur_inl rfl (rcv_of ((d149 _ (ne_tg (hO151.fix 8 (by decide) rfl) (hu151.tm k59.2 (by decide)) (by decide))).trans (hv57.ko (n := 5) hc43 rfl (wid_f (by decide)) (by decide)))) (Nat.le_of_ble_eq_true rfl) (Nat.le_of_ble_eq_true rfl) (sf_X5_toldBy hO151 (hO151.fix 9 (by decide) rfl) g21 (hu151.tm (hu57.tm t1 (by decide)) (by decide)) _ _ _ (fun w152 h154 hr153 hO154 hv154 => ?_))
                have hu154 : un [222, 223, 21212] h151 h154 := hv154.mono (by decide)
                obtain ⟨x155, rfl⟩ := hr153
                show uRun _ (uCall Mt _) _ 171 (_, [(.inl x155)], _, _, _)
                refine ur_if1 rfl (fun c156 => ?_) (fun c156 => ?_)
                · have t157 := eq_to c156
                  refine ur_ldA rfl rfl ?_
                  refine ur_ldI rfl rfl ?_
                  refine ur_push rfl ?_
                  refine ur_binV rfl (fun x158 e159 => ?_)
                  have t160 := ti_add e159 (by omega) (by omega)
                  obtain ⟨xs162, hc161, hn163⟩ := hO154.lon (hu154.tm (hu151.tm k59.2 (by decide)) (by decide))
                  refine ur_aldJV rfl hc161 hn163 (by omega) (fun y165 hx166 => ?_)
                  refine ur_ldJ rfl rfl ?_
                  refine ur_binJV rfl (fun y167 e168 => ?_)
                  refine ur_push rfl ?_
                  refine ur_cmpJV rfl (fun x169 e170 => ?_)
                  refine ur_if1 rfl (fun c171 => ?_) (fun c171 => ?_)
                  · have t172 := eq_to c171
                    refine ur_push rfl ?_
                    exact ur_ret rfl rfl (hQ _ _ ⟨false, rfl⟩ hO154 (hu57.tr (hu151.tr hu154)))
                  · have t173 := eq_no c171
                    refine ur_push rfl ?_
                    refine ur_go rfl ?_
                    exact ur_ret rfl rfl (hQ _ _ ⟨true, rfl⟩ hO154 (hu57.tr (hu151.tr hu154)))
                · have t174 := eq_no c156
                  refine ur_ldA rfl rfl ?_
                  refine ur_ldI rfl rfl ?_
                  refine ur_push rfl ?_
                  refine ur_binV rfl (fun x175 e176 => ?_)
                  have t177 := ti_add e176 (by omega) (by omega)
                  refine ur_dup2 rfl rfl rfl ?_
                  obtain ⟨xs179, hc178, hn180⟩ := hO154.lon (hu154.tm (hu151.tm k59.2 (by decide)) (by decide))
                  refine ur_aldJV rfl hc178 hn180 (by omega) (fun y182 hx183 => ?_)
                  refine ur_ldJ rfl rfl ?_
                  refine ur_binJV rfl (fun y184 e185 => ?_)
                  refine ur_astJV (W := [222, 223, 21212]) (m := 8712) rfl hO154 hc178 hn180 (by omega) (Or.inr (Or.inr (wid_sig k59.1 (by decide)))) (fun h188 hO188 hu188 d186 hc187 => ?_)
                  refine ur_ldA rfl rfl ?_
                  refine ur_ldI rfl rfl ?_
                  refine ur_push rfl ?_
                  refine ur_binV rfl (fun x189 e190 => ?_)
                  have t191 := ti_add e190 (by omega) (by omega)
                  refine ur_aldJV rfl hc187 ((List.length_set ..).trans hn180) (by omega) (fun y192 hx193 => ?_)
                  refine ur_ldJ rfl rfl ?_
                  refine ur_binJV rfl (fun y194 e195 => ?_)
                  refine ur_push rfl ?_
                  refine ur_cmpJV rfl (fun x196 e197 => ?_)
                  refine ur_if1 rfl (fun c198 => ?_) (fun c198 => ?_)
                  · have t199 := eq_to c198
                    refine ur_push rfl ?_
                    exact ur_ret rfl rfl (hQ _ _ ⟨false, rfl⟩ hO188 (hu57.tr (hu151.tr (hu154.tr hu188))))
                  · have t200 := eq_no c198
                    refine ur_push rfl ?_
                    refine ur_go rfl ?_
                    exact ur_ret rfl rfl (hQ _ _ ⟨true, rfl⟩ hO188 (hu57.tr (hu151.tr (hu154.tr hu188))))
            · have t201 := lt_no c115
              exfalso
              omega
      · refine ur_push rfl ?_
        exact ur_ret rfl rfl (hQ _ _ ⟨true, rfl⟩ hO0 un.rf)
    · have t202 := le_no c41
      refine ur_push rfl ?_
      exact ur_ret rfl rfl (hQ _ _ ⟨false, rfl⟩ hO0 un.rf)

set_option maxRecDepth 20000 in
set_option maxHeartbeats 4000000 in
theorem sf_X5_fitDay {d kc ks : Nat} {h0 : aH} {Q : Option aV → aH → Prop} (hO0 : OK h0) {a1 : Nat} (g1 : 114 ≤ a1) (t1 : tg h0 a1 = (110, 13)) {a2 : Nat} (g2 : 114 ≤ a2) (t2 : tg h0 a2 = (102, 14)) (a3 : Int32) (b3 : -60 ≤ a3.toInt ∧ a3.toInt ≤ 60) (a4 : Int32) (a5 : Int32) (a6 : Int32) (hQ : ∀ r h', (∃ x, r = some (.inl x)) → OK h' → un [222, 223, 21212] h0 h' → Q r h') : uCall Mt (d + 6) 53 [(.inr (.inr (some 8))), (.inr (.inr (some a1))), (.inr (.inr (some a2))), (.inl a3), (.inl a4), (.inl a5), (.inl a6)] h0 kc ks Q := by
  have l_m120 : ((-120) : Int32).toInt = -120 := by decide
  have l_m1 : ((-1) : Int32).toInt = -1 := by decide
  have l_0 : ((0) : Int32).toInt = 0 := by decide
  have l_1 : ((1) : Int32).toInt = 1 := by decide
  have l_7 : ((7) : Int32).toInt = 7 := by decide
  have l_120 : ((120) : Int32).toInt = 120 := by decide
  refine uc_ink [some (.inr (.inr (some 8))), some (.inr (.inr (some a1))), some (.inr (.inr (some a2))), some (.inl a3), some (.inl a4), some (.inl a5), some (.inl a6), none, none, none, none, none, none, none, none, none] mt_53 (Nat.le_of_ble_eq_true rfl) rfl ?_
  refine ur_ldA rfl rfl ?_
  refine ur_ldI rfl rfl ?_
  obtain ⟨g21, f2, f3, f4, f5, f6, f7, f8, f9, f10, f11, q12, q13, o14, q15, hc1, k16, k17, k18, k19, k20⟩ := hO0.comet t2
  refine ur_inl rfl (rcv_of hc1) (Nat.le_of_ble_eq_true rfl) (Nat.le_of_ble_eq_true rfl) (sf_X2_passOf hO0 g21 t2 _ (fun w22 hr23 => ?_))
  obtain ⟨x24, rfl⟩ := hr23
  show uRun _ (uCall Mt _) _ 5 (_, [(.inl x24)], _, _, _)
  refine ur_ldI rfl rfl ?_
  refine ur_binV rfl (fun x25 e26 => ?_)
  have z27 := any_r x24
  have z28 := any_r a4
  refine ur_svIk [some (.inr (.inr (some 8))), some (.inr (.inr (some a1))), some (.inr (.inr (some a2))), some (.inl a3), some (.inl a4), some (.inl a5), some (.inl a6), some (.inl x25), none, none, none, none, none, none, none, none] rfl rfl ?_
  refine ur_ldA rfl rfl ?_
  obtain ⟨g45, f30, f31, f32, f33, f34, f35, f36, f37, f38, o42, f39, f40, f41, hc29, k43, k44⟩ := hO0.word t1
  refine ur_inl rfl (rcv_of hc29) (Nat.le_of_ble_eq_true rfl) (Nat.le_of_ble_eq_true rfl) (sf_X10_rootWord hO0 g45 t1 (fun w46 hr47 => ?_))
  obtain ⟨r48, rfl, k49⟩ := hr47
  show uRun _ (uCall Mt _) _ 14 (_, [(.inr (.inr (some r48)))], _, _, _)
  refine ur_svAk [some (.inr (.inr (some 8))), some (.inr (.inr (some a1))), some (.inr (.inr (some a2))), some (.inl a3), some (.inl a4), some (.inl a5), some (.inl a6), some (.inl x25), some (.inr (.inr (some r48))), none, none, none, none, none, none, none] rfl rfl ?_
  refine ur_ldA rfl rfl ?_
  refine ur_get rfl hc29 rfl ?_
  refine ur_push rfl ?_
  refine ur_if2 rfl (fun c50 => ?_) (fun c50 => ?_)
  · have t51 := ne_to c50
    refine ur_push rfl ?_
    refine ur_svIk [some (.inr (.inr (some 8))), some (.inr (.inr (some a1))), some (.inr (.inr (some a2))), some (.inl a3), some (.inl a4), some (.inl a5), some (.inl a6), some (.inl x25), some (.inr (.inr (some r48))), some (.inl 0), none, none, none, none, none, none] rfl rfl ?_
    refine ur_ldI rfl rfl ?_
    refine ur_if1f rfl (by decide) ?_
    refine ur_push rfl ?_
    refine ur_go rfl ?_
    refine ur_svIk [some (.inr (.inr (some 8))), some (.inr (.inr (some a1))), some (.inr (.inr (some a2))), some (.inl a3), some (.inl a4), some (.inl a5), some (.inl a6), some (.inl x25), some (.inr (.inr (some r48))), some (.inl 0), some (.inl 1), none, none, none, none, none] rfl rfl ?_
    refine ur_push rfl ?_
    refine ur_svIk [some (.inr (.inr (some 8))), some (.inr (.inr (some a1))), some (.inr (.inr (some a2))), some (.inl a3), some (.inl a4), some (.inl a5), some (.inl a6), some (.inl x25), some (.inr (.inr (some r48))), some (.inl 0), some (.inl 1), some (.inl (-1)), none, none, none, none] rfl rfl ?_
    refine ur_push rfl ?_
    refine ur_svIk [some (.inr (.inr (some 8))), some (.inr (.inr (some a1))), some (.inr (.inr (some a2))), some (.inl a3), some (.inl a4), some (.inl a5), some (.inl a6), some (.inl x25), some (.inr (.inr (some r48))), some (.inl 0), some (.inl 1), some (.inl (-1)), some (.inl 0), none, none, none] rfl rfl ?_
    have L58 : ∀ (m59 : Nat) (x52 : Int32) (x53 : Int32) (x54 : Int32) (u55 : Option aV) (u56 : Option aV) (u57 : Option aV) (h61 : aH) , OK h61 → un [222, 223, 21212] h0 h61 → ((0 ≤ x54.toInt ∧ x54.toInt ≤ 2147483647)) → ((2147483648 - x54.toInt).toNat) < m59 → uRun oX5_fitDay (uCall Mt (d + 5)) Q 50 ([some (.inr (.inr (some 8))), some (.inr (.inr (some a1))), some (.inr (.inr (some a2))), some (.inl a3), some (.inl a4), some (.inl a5), some (.inl a6), some (.inl x25), some (.inr (.inr (some r48))), some (.inl 0), some (.inl x52), some (.inl x53), some (.inl x54), u55, u56, u57], [], h61, kc, ks) := by
      intro m59
      induction m59 with
      | zero => intro x52 x53 x54 u55 u56 u57 h61 hO61 hu61 iv62 mm63; omega
      | succ m59 ih60 =>
        intro x52 x53 x54 u55 u56 u57 h61 hO61 hu61 iv62 mm63
        refine ur_ldI rfl rfl ?_
        refine ur_ldA rfl rfl ?_
        obtain ⟨g80, f65, f66, f67, f68, f69, f70, f71, f72, f73, o77, f74, f75, f76, hc64, k78, k79⟩ := hO61.word (hu61.tm k49.2 (by decide))
        refine ur_get rfl hc64 rfl ?_
        have z81 := any_r x54
        have z82 := any_r f74
        refine ur_if2 rfl (fun c83 => ?_) (fun c83 => ?_)
        · have t84 := le_to c83
          refine ur_ldI rfl rfl ?_
          refine ur_if1 rfl (fun c85 => ?_) (fun c85 => ?_)
          · have t86 := eq_to c85
            refine ur_push rfl ?_
            exact ur_ret rfl rfl (hQ _ _ ⟨_, rfl⟩ hO61 hu61)
          · have t87 := eq_no c85
            refine ur_ldI rfl rfl ?_
            refine ur_go rfl ?_
            exact ur_ret rfl rfl (hQ _ _ ⟨_, rfl⟩ hO61 hu61)
        · have t88 := le_no c83
          refine ur_ldA rfl rfl ?_
          refine ur_ldI rfl rfl ?_
          refine ur_inl rfl (rcv_of hc64) (Nat.le_of_ble_eq_true rfl) (Nat.le_of_ble_eq_true rfl) (sf_X10_spanFrom hO61 g80 (hu61.tm k49.2 (by decide)) _ (fun w89 hr90 => ?_))
          obtain ⟨x91, rfl, t92⟩ := hr90
          show uRun _ (uCall Mt _) _ 67 (_, [(.inl x91)], _, _, _)
          refine ur_ldI rfl rfl ?_
          refine ur_ldI rfl rfl ?_
          refine ur_if1t rfl (by decide) ?_
          refine ur_ldI rfl rfl ?_
          refine ur_binV rfl (fun x93 e94 => ?_)
          have z95 := any_r x25
          have z96 := any_r a5
          refine ur_maxV rfl (by show ¬ 9 ≤ 2; decide) (fun x97 t98 e99 => ?_)
          refine ur_svIk [some (.inr (.inr (some 8))), some (.inr (.inr (some a1))), some (.inr (.inr (some a2))), some (.inl a3), some (.inl a4), some (.inl a5), some (.inl a6), some (.inl x25), some (.inr (.inr (some r48))), some (.inl 0), some (.inl x52), some (.inl x53), some (.inl x54), some (.inl x97), u56, u57] rfl rfl ?_
          refine ur_ldA rfl rfl ?_
          refine ur_ldI rfl rfl ?_
          refine ur_inl rfl (rcv_of hc64) (Nat.le_of_ble_eq_true rfl) (Nat.le_of_ble_eq_true rfl) (sf_X10_spanTo hO61 g80 (hu61.tm k49.2 (by decide)) _ (fun w100 hr101 => ?_))
          obtain ⟨x102, rfl, t103⟩ := hr101
          show uRun _ (uCall Mt _) _ 94 (_, [(.inl x102)], _, _, _)
          refine ur_ldI rfl rfl ?_
          refine ur_ldI rfl rfl ?_
          refine ur_if1t rfl (by decide) ?_
          refine ur_ldI rfl rfl ?_
          refine ur_binV rfl (fun x104 e105 => ?_)
          have z106 := any_r a6
          refine ur_minV rfl (by show ¬ 9 ≤ 2; decide) (fun x107 t108 e109 => ?_)
          refine ur_svIk [some (.inr (.inr (some 8))), some (.inr (.inr (some a1))), some (.inr (.inr (some a2))), some (.inl a3), some (.inl a4), some (.inl a5), some (.inl a6), some (.inl x25), some (.inr (.inr (some r48))), some (.inl 0), some (.inl x52), some (.inl x53), some (.inl x54), some (.inl x97), some (.inl x107), u57] rfl rfl ?_
          refine ur_ldI rfl rfl ?_
          refine ur_svIk [some (.inr (.inr (some 8))), some (.inr (.inr (some a1))), some (.inr (.inr (some a2))), some (.inl a3), some (.inl a4), some (.inl a5), some (.inl a6), some (.inl x25), some (.inr (.inr (some r48))), some (.inl 0), some (.inl x52), some (.inl x53), some (.inl x54), some (.inl x97), some (.inl x107), some (.inl x97)] rfl rfl ?_
          have L113 : ∀ (m114 : Nat) (x110 : Int32) (x111 : Int32) (x112 : Int32) (h116 : aH) , OK h116 → un [222, 223, 21212] h61 h116 → ((0 ≤ x112.toInt ∧ x112.toInt ≤ 2147483647)) → ((2147483648 - x112.toInt).toNat) < m114 → uRun oX5_fitDay (uCall Mt (d + 5)) Q 118 ([some (.inr (.inr (some 8))), some (.inr (.inr (some a1))), some (.inr (.inr (some a2))), some (.inl a3), some (.inl a4), some (.inl a5), some (.inl a6), some (.inl x25), some (.inr (.inr (some r48))), some (.inl 0), some (.inl x110), some (.inl x111), some (.inl x54), some (.inl x97), some (.inl x107), some (.inl x112)], [], h116, kc, ks) := by
            intro m114
            induction m114 with
            | zero => intro x110 x111 x112 h116 hO116 hu116 iv117 mm118; omega
            | succ m114 ih115 =>
              intro x110 x111 x112 h116 hO116 hu116 iv117 mm118
              refine ur_ldI rfl rfl ?_
              refine ur_ldI rfl rfl ?_
              have z119 := any_r x112
              have z120 := any_r x107
              refine ur_if2 rfl (fun c121 => ?_) (fun c121 => ?_)
              · have t122 := lt_to c121
                refine ur_incV (fun z => [some (.inr (.inr (some 8))), some (.inr (.inr (some a1))), some (.inr (.inr (some a2))), some (.inl a3), some (.inl a4), some (.inl a5), some (.inl a6), some (.inl x25), some (.inr (.inr (some r48))), some (.inl 0), some (.inl x110), some (.inl x111), some (.inl z), some (.inl x97), some (.inl x107), some (.inl x112)]) rfl rfl (fun _ => rfl) (fun x123 e124 => ?_)
                have t125 := ti_add e124 (by omega) (by omega)
                refine ur_go rfl ?_
                have z126 := any_r x123
                exact ih60 x110 x111 x123 _ _ _ _ hO116 (hu61.tr hu116) (by omega) (by omega)
              · have t127 := lt_no c121
                refine ur_ldI rfl rfl ?_
                refine ur_if1 rfl (fun c128 => ?_) (fun c128 => ?_)
                · have t129 := eq_to c128
                  refine ur_ldA rfl rfl ?_
                  refine ur_ldA rfl rfl ?_
                  refine ur_ldA rfl rfl ?_
                  refine ur_get rfl (hu116.ko (n := 13) (hu61.ko (n := 13) hc29 rfl (wid_w g45) (by decide)) rfl (wid_w g45) (by decide)) rfl ?_
                  refine ur_ldI rfl rfl ?_
                  refine ur_ldI rfl rfl ?_
                  refine ur_ldI rfl rfl ?_
                  obtain ⟨f131, hc130, k132⟩ := ok_8 hO116
                  refine ur_inl rfl (rcv_of hc130) (Nat.le_of_ble_eq_true rfl) (Nat.le_of_ble_eq_true rfl) (sf_X5_seenOn hO116 g21 (hu116.tm (hu61.tm t2 (by decide)) (by decide)) _ (by show 0 ≤ f32.toInt ∧ f32.toInt ≤ 8; omega) _ (by show -60 ≤ a3.toInt ∧ a3.toInt ≤ 60; omega) _ _ (fun w133 h135 hr134 hO135 hv135 => ?_))
                  have hu135 := hv135
                  obtain ⟨b136, rfl⟩ := hr134
                  show uRun _ (uCall Mt _) _ 160 (_, [(.inl (bi b136))], _, _, _)
                  refine ur_neB rfl (fun c137 => ?_) (fun c137 => ?_)
                  · refine ur_ldA rfl rfl ?_
                    refine ur_ldA rfl rfl ?_
                    refine ur_ldA rfl rfl ?_
                    refine ur_ldI rfl rfl ?_
                    refine ur_ldI rfl rfl ?_
                    refine ur_binV rfl (fun x138 e139 => ?_)
                    refine ur_ldI rfl rfl ?_
                    refine ur_inl rfl (rcv_of (hv135.ko (n := 5) hc130 rfl (wid_f (by decide)) (by decide))) (Nat.le_of_ble_eq_true rfl) (Nat.le_of_ble_eq_true rfl) (sf_X5_isAsSaid hO135 g45 (hu135.tm (hu116.tm (hu61.tm t1 (by decide)) (by decide)) (by decide)) g21 (hu135.tm (hu116.tm (hu61.tm t2 (by decide)) (by decide)) (by decide)) _ _ (fun w140 h142 hr141 hO142 hv142 => ?_))
                    have hu142 : un [222, 223, 21212] h135 h142 := hv142.mono (by decide)
                    obtain ⟨b143, rfl⟩ := hr141
                    show uRun _ (uCall Mt _) _ 179 (_, [(.inl (bi b143))], _, _, _)
                    refine ur_neB rfl (fun c144 => ?_) (fun c144 => ?_)
                    · refine ur_ldI rfl rfl ?_
                      refine ur_ldI rfl rfl ?_
                      refine ur_binV rfl (fun x145 e146 => ?_)
                      have t147 : x145.toInt = x138.toInt := congrArg Int32.toInt (e146.symm.trans e139)
                      refine ur_ldI rfl rfl ?_
                      refine ur_ldI rfl rfl ?_
                      refine ur_callv rfl rfl (Nat.le_of_ble_eq_true rfl) (Nat.le_of_ble_eq_true rfl) rfl (sp_within _ _ _ _ _) ?_
                      refine ur_eqB rfl (fun c150 => ?_) (fun c150 => ?_)
                      · have t151 := wi_no c150
                        refine ur_incV (fun z => [some (.inr (.inr (some 8))), some (.inr (.inr (some a1))), some (.inr (.inr (some a2))), some (.inl a3), some (.inl a4), some (.inl a5), some (.inl a6), some (.inl x25), some (.inr (.inr (some r48))), some (.inl 0), some (.inl x110), some (.inl x111), some (.inl x54), some (.inl x97), some (.inl x107), some (.inl z)]) rfl rfl (fun _ => rfl) (fun x152 e153 => ?_)
                        have t154 := ti_add e153 (by omega) (by omega)
                        refine ur_go rfl ?_
                        have z155 := any_r x152
                        exact ih115 x110 x111 x152 _ hO142 (hu116.tr (hu135.tr hu142)) (by omega) (by omega)
                      · have t156 := wi_to c150
                        refine ur_ldI rfl rfl ?_
                        refine ur_push rfl ?_
                        refine ur_if2 rfl (fun c157 => ?_) (fun c157 => ?_)
                        · have t158 := eq_to c157
                          refine ur_ldI rfl rfl ?_
                          refine ur_svIk [some (.inr (.inr (some 8))), some (.inr (.inr (some a1))), some (.inr (.inr (some a2))), some (.inl a3), some (.inl a4), some (.inl a5), some (.inl a6), some (.inl x25), some (.inr (.inr (some r48))), some (.inl 0), some (.inl x110), some (.inl x112), some (.inl x54), some (.inl x97), some (.inl x107), some (.inl x112)] rfl rfl ?_
                          refine ur_incV (fun z => [some (.inr (.inr (some 8))), some (.inr (.inr (some a1))), some (.inr (.inr (some a2))), some (.inl a3), some (.inl a4), some (.inl a5), some (.inl a6), some (.inl x25), some (.inr (.inr (some r48))), some (.inl 0), some (.inl x110), some (.inl x112), some (.inl x54), some (.inl x97), some (.inl x107), some (.inl z)]) rfl rfl (fun _ => rfl) (fun x159 e160 => ?_)
                          have t161 := ti_add e160 (by omega) (by omega)
                          refine ur_go rfl ?_
                          have z162 := any_r x159
                          exact ih115 x110 x112 x159 _ hO142 (hu116.tr (hu135.tr hu142)) (by omega) (by omega)
                        · have t163 := eq_no c157
                          refine ur_ldI rfl rfl ?_
                          refine ur_ldI rfl rfl ?_
                          have z164 := any_r x111
                          refine ur_if2 rfl (fun c165 => ?_) (fun c165 => ?_)
                          · have t166 := le_to c165
                            refine ur_incV (fun z => [some (.inr (.inr (some 8))), some (.inr (.inr (some a1))), some (.inr (.inr (some a2))), some (.inl a3), some (.inl a4), some (.inl a5), some (.inl a6), some (.inl x25), some (.inr (.inr (some r48))), some (.inl 0), some (.inl x110), some (.inl x111), some (.inl x54), some (.inl x97), some (.inl x107), some (.inl z)]) rfl rfl (fun _ => rfl) (fun x167 e168 => ?_)
                            have t169 := ti_add e168 (by omega) (by omega)
                            refine ur_go rfl ?_
                            have z170 := any_r x167
                            exact ih115 x110 x111 x167 _ hO142 (hu116.tr (hu135.tr hu142)) (by omega) (by omega)
                          · have t171 := le_no c165
                            refine ur_ldI rfl rfl ?_
                            refine ur_svIk [some (.inr (.inr (some 8))), some (.inr (.inr (some a1))), some (.inr (.inr (some a2))), some (.inl a3), some (.inl a4), some (.inl a5), some (.inl a6), some (.inl x25), some (.inr (.inr (some r48))), some (.inl 0), some (.inl x110), some (.inl x112), some (.inl x54), some (.inl x97), some (.inl x107), some (.inl x112)] rfl rfl ?_
                            refine ur_incV (fun z => [some (.inr (.inr (some 8))), some (.inr (.inr (some a1))), some (.inr (.inr (some a2))), some (.inl a3), some (.inl a4), some (.inl a5), some (.inl a6), some (.inl x25), some (.inr (.inr (some r48))), some (.inl 0), some (.inl x110), some (.inl x112), some (.inl x54), some (.inl x97), some (.inl x107), some (.inl z)]) rfl rfl (fun _ => rfl) (fun x172 e173 => ?_)
                            have t174 := ti_add e173 (by omega) (by omega)
                            refine ur_go rfl ?_
                            have z175 := any_r x172
                            exact ih115 x110 x112 x172 _ hO142 (hu116.tr (hu135.tr hu142)) (by omega) (by omega)
                    · refine ur_push rfl ?_
                      refine ur_svIk [some (.inr (.inr (some 8))), some (.inr (.inr (some a1))), some (.inr (.inr (some a2))), some (.inl a3), some (.inl a4), some (.inl a5), some (.inl a6), some (.inl x25), some (.inr (.inr (some r48))), some (.inl 0), some (.inl 1), some (.inl x111), some (.inl x54), some (.inl x97), some (.inl x107), some (.inl x112)] rfl rfl ?_
                      refine ur_go rfl ?_
                      refine ur_incV (fun z => [some (.inr (.inr (some 8))), some (.inr (.inr (some a1))), some (.inr (.inr (some a2))), some (.inl a3), some (.inl a4), some (.inl a5), some (.inl a6), some (.inl x25), some (.inr (.inr (some r48))), some (.inl 0), some (.inl 1), some (.inl x111), some (.inl x54), some (.inl x97), some (.inl x107), some (.inl z)]) rfl rfl (fun _ => rfl) (fun x176 e177 => ?_)
                      have t178 := ti_add e177 (by omega) (by omega)
                      refine ur_go rfl ?_
                      have z179 := any_r x176
                      exact ih115 1 x111 x176 _ hO142 (hu116.tr (hu135.tr hu142)) (by omega) (by omega)
                  · refine ur_go rfl ?_
                    refine ur_incV (fun z => [some (.inr (.inr (some 8))), some (.inr (.inr (some a1))), some (.inr (.inr (some a2))), some (.inl a3), some (.inl a4), some (.inl a5), some (.inl a6), some (.inl x25), some (.inr (.inr (some r48))), some (.inl 0), some (.inl x110), some (.inl x111), some (.inl x54), some (.inl x97), some (.inl x107), some (.inl z)]) rfl rfl (fun _ => rfl) (fun x180 e181 => ?_)
                    have t182 := ti_add e181 (by omega) (by omega)
                    refine ur_go rfl ?_
                    have z183 := any_r x180
                    exact ih115 x110 x111 x180 _ hO135 (hu116.tr hu135) (by omega) (by omega)
                · have t184 := eq_no c128
                  refine ur_ldI rfl rfl ?_
                  refine ur_push rfl ?_
                  refine ur_if2 rfl (fun c185 => ?_) (fun c185 => ?_)
                  · have t186 := eq_to c185
                    refine ur_ldA rfl rfl ?_
                    refine ur_ldA rfl rfl ?_
                    refine ur_ldA rfl rfl ?_
                    refine ur_get rfl (hu116.ko (n := 13) (hu61.ko (n := 13) hc29 rfl (wid_w g45) (by decide)) rfl (wid_w g45) (by decide)) rfl ?_
                    refine ur_ldI rfl rfl ?_
                    refine ur_ldI rfl rfl ?_
                    refine ur_ldI rfl rfl ?_
                    obtain ⟨f188, hc187, k189⟩ := ok_8 hO116
                    refine ur_inl rfl (rcv_of hc187) (Nat.le_of_ble_eq_true rfl) (Nat.le_of_ble_eq_true rfl) (sf_X5_seenOn hO116 g21 (hu116.tm (hu61.tm t2 (by decide)) (by decide)) _ (by show 0 ≤ f32.toInt ∧ f32.toInt ≤ 8; omega) _ (by show -60 ≤ a3.toInt ∧ a3.toInt ≤ 60; omega) _ _ (fun w190 h192 hr191 hO192 hv192 => ?_))
                    have hu192 := hv192
                    obtain ⟨b193, rfl⟩ := hr191
                    show uRun _ (uCall Mt _) _ 160 (_, [(.inl (bi b193))], _, _, _)
                    refine ur_neB rfl (fun c194 => ?_) (fun c194 => ?_)
                    · refine ur_ldA rfl rfl ?_
                      refine ur_ldA rfl rfl ?_
                      refine ur_ldA rfl rfl ?_
                      refine ur_ldI rfl rfl ?_
                      refine ur_ldI rfl rfl ?_
                      refine ur_binV rfl (fun x195 e196 => ?_)
                      refine ur_ldI rfl rfl ?_
                      refine ur_inl rfl (rcv_of (hv192.ko (n := 5) hc187 rfl (wid_f (by decide)) (by decide))) (Nat.le_of_ble_eq_true rfl) (Nat.le_of_ble_eq_true rfl) (sf_X5_isAsSaid hO192 g45 (hu192.tm (hu116.tm (hu61.tm t1 (by decide)) (by decide)) (by decide)) g21 (hu192.tm (hu116.tm (hu61.tm t2 (by decide)) (by decide)) (by decide)) _ _ (fun w197 h199 hr198 hO199 hv199 => ?_))
                      have hu199 : un [222, 223, 21212] h192 h199 := hv199.mono (by decide)
                      obtain ⟨b200, rfl⟩ := hr198
                      show uRun _ (uCall Mt _) _ 179 (_, [(.inl (bi b200))], _, _, _)
                      refine ur_neB rfl (fun c201 => ?_) (fun c201 => ?_)
                      · refine ur_ldI rfl rfl ?_
                        refine ur_ldI rfl rfl ?_
                        refine ur_binV rfl (fun x202 e203 => ?_)
                        have t204 : x202.toInt = x195.toInt := congrArg Int32.toInt (e203.symm.trans e196)
                        refine ur_ldI rfl rfl ?_
                        refine ur_ldI rfl rfl ?_
                        refine ur_callv rfl rfl (Nat.le_of_ble_eq_true rfl) (Nat.le_of_ble_eq_true rfl) rfl (sp_within _ _ _ _ _) ?_
                        refine ur_eqB rfl (fun c207 => ?_) (fun c207 => ?_)
                        · have t208 := wi_no c207
                          refine ur_incV (fun z => [some (.inr (.inr (some 8))), some (.inr (.inr (some a1))), some (.inr (.inr (some a2))), some (.inl a3), some (.inl a4), some (.inl a5), some (.inl a6), some (.inl x25), some (.inr (.inr (some r48))), some (.inl 0), some (.inl x110), some (.inl x111), some (.inl x54), some (.inl x97), some (.inl x107), some (.inl z)]) rfl rfl (fun _ => rfl) (fun x209 e210 => ?_)
                          have t211 := ti_add e210 (by omega) (by omega)
                          refine ur_go rfl ?_
                          have z212 := any_r x209
                          exact ih115 x110 x111 x209 _ hO199 (hu116.tr (hu192.tr hu199)) (by omega) (by omega)
                        · have t213 := wi_to c207
                          refine ur_ldI rfl rfl ?_
                          refine ur_push rfl ?_
                          refine ur_if2 rfl (fun c214 => ?_) (fun c214 => ?_)
                          · have t215 := eq_to c214
                            refine ur_ldI rfl rfl ?_
                            refine ur_svIk [some (.inr (.inr (some 8))), some (.inr (.inr (some a1))), some (.inr (.inr (some a2))), some (.inl a3), some (.inl a4), some (.inl a5), some (.inl a6), some (.inl x25), some (.inr (.inr (some r48))), some (.inl 0), some (.inl x110), some (.inl x112), some (.inl x54), some (.inl x97), some (.inl x107), some (.inl x112)] rfl rfl ?_
                            refine ur_incV (fun z => [some (.inr (.inr (some 8))), some (.inr (.inr (some a1))), some (.inr (.inr (some a2))), some (.inl a3), some (.inl a4), some (.inl a5), some (.inl a6), some (.inl x25), some (.inr (.inr (some r48))), some (.inl 0), some (.inl x110), some (.inl x112), some (.inl x54), some (.inl x97), some (.inl x107), some (.inl z)]) rfl rfl (fun _ => rfl) (fun x216 e217 => ?_)
                            have t218 := ti_add e217 (by omega) (by omega)
                            refine ur_go rfl ?_
                            have z219 := any_r x216
                            exact ih115 x110 x112 x216 _ hO199 (hu116.tr (hu192.tr hu199)) (by omega) (by omega)
                          · have t220 := eq_no c214
                            exfalso
                            omega
                      · refine ur_push rfl ?_
                        refine ur_svIk [some (.inr (.inr (some 8))), some (.inr (.inr (some a1))), some (.inr (.inr (some a2))), some (.inl a3), some (.inl a4), some (.inl a5), some (.inl a6), some (.inl x25), some (.inr (.inr (some r48))), some (.inl 0), some (.inl 1), some (.inl x111), some (.inl x54), some (.inl x97), some (.inl x107), some (.inl x112)] rfl rfl ?_
                        refine ur_go rfl ?_
                        refine ur_incV (fun z => [some (.inr (.inr (some 8))), some (.inr (.inr (some a1))), some (.inr (.inr (some a2))), some (.inl a3), some (.inl a4), some (.inl a5), some (.inl a6), some (.inl x25), some (.inr (.inr (some r48))), some (.inl 0), some (.inl 1), some (.inl x111), some (.inl x54), some (.inl x97), some (.inl x107), some (.inl z)]) rfl rfl (fun _ => rfl) (fun x221 e222 => ?_)
                        have t223 := ti_add e222 (by omega) (by omega)
                        refine ur_go rfl ?_
                        have z224 := any_r x221
                        exact ih115 1 x111 x221 _ hO199 (hu116.tr (hu192.tr hu199)) (by omega) (by omega)
                    · refine ur_go rfl ?_
                      refine ur_incV (fun z => [some (.inr (.inr (some 8))), some (.inr (.inr (some a1))), some (.inr (.inr (some a2))), some (.inl a3), some (.inl a4), some (.inl a5), some (.inl a6), some (.inl x25), some (.inr (.inr (some r48))), some (.inl 0), some (.inl x110), some (.inl x111), some (.inl x54), some (.inl x97), some (.inl x107), some (.inl z)]) rfl rfl (fun _ => rfl) (fun x225 e226 => ?_)
                      have t227 := ti_add e226 (by omega) (by omega)
                      refine ur_go rfl ?_
                      have z228 := any_r x225
                      exact ih115 x110 x111 x225 _ hO192 (hu116.tr hu192) (by omega) (by omega)
                  · have t229 := eq_no c185
                    refine ur_ldI rfl rfl ?_
                    refine ur_ldI rfl rfl ?_
                    have z230 := any_r x111
                    refine ur_if2 rfl (fun c231 => ?_) (fun c231 => ?_)
                    · have t232 := lt_to c231
                      refine ur_ldA rfl rfl ?_
                      refine ur_ldA rfl rfl ?_
                      refine ur_ldA rfl rfl ?_
                      refine ur_get rfl (hu116.ko (n := 13) (hu61.ko (n := 13) hc29 rfl (wid_w g45) (by decide)) rfl (wid_w g45) (by decide)) rfl ?_
                      refine ur_ldI rfl rfl ?_
                      refine ur_ldI rfl rfl ?_
                      refine ur_ldI rfl rfl ?_
                      obtain ⟨f234, hc233, k235⟩ := ok_8 hO116
                      refine ur_inl rfl (rcv_of hc233) (Nat.le_of_ble_eq_true rfl) (Nat.le_of_ble_eq_true rfl) (sf_X5_seenOn hO116 g21 (hu116.tm (hu61.tm t2 (by decide)) (by decide)) _ (by show 0 ≤ f32.toInt ∧ f32.toInt ≤ 8; omega) _ (by show -60 ≤ a3.toInt ∧ a3.toInt ≤ 60; omega) _ _ (fun w236 h238 hr237 hO238 hv238 => ?_))
                      have hu238 := hv238
                      obtain ⟨b239, rfl⟩ := hr237
                      show uRun _ (uCall Mt _) _ 160 (_, [(.inl (bi b239))], _, _, _)
                      refine ur_neB rfl (fun c240 => ?_) (fun c240 => ?_)
                      · refine ur_ldA rfl rfl ?_
                        refine ur_ldA rfl rfl ?_
                        refine ur_ldA rfl rfl ?_
                        refine ur_ldI rfl rfl ?_
                        refine ur_ldI rfl rfl ?_
                        refine ur_binV rfl (fun x241 e242 => ?_)
                        refine ur_ldI rfl rfl ?_
                        refine ur_inl rfl (rcv_of (hv238.ko (n := 5) hc233 rfl (wid_f (by decide)) (by decide))) (Nat.le_of_ble_eq_true rfl) (Nat.le_of_ble_eq_true rfl) (sf_X5_isAsSaid hO238 g45 (hu238.tm (hu116.tm (hu61.tm t1 (by decide)) (by decide)) (by decide)) g21 (hu238.tm (hu116.tm (hu61.tm t2 (by decide)) (by decide)) (by decide)) _ _ (fun w243 h245 hr244 hO245 hv245 => ?_))
                        have hu245 : un [222, 223, 21212] h238 h245 := hv245.mono (by decide)
                        obtain ⟨b246, rfl⟩ := hr244
                        show uRun _ (uCall Mt _) _ 179 (_, [(.inl (bi b246))], _, _, _)
                        refine ur_neB rfl (fun c247 => ?_) (fun c247 => ?_)
                        · refine ur_ldI rfl rfl ?_
                          refine ur_ldI rfl rfl ?_
                          refine ur_binV rfl (fun x248 e249 => ?_)
                          have t250 : x248.toInt = x241.toInt := congrArg Int32.toInt (e249.symm.trans e242)
                          refine ur_ldI rfl rfl ?_
                          refine ur_ldI rfl rfl ?_
                          refine ur_callv rfl rfl (Nat.le_of_ble_eq_true rfl) (Nat.le_of_ble_eq_true rfl) rfl (sp_within _ _ _ _ _) ?_
                          refine ur_eqB rfl (fun c253 => ?_) (fun c253 => ?_)
                          · have t254 := wi_no c253
                            refine ur_incV (fun z => [some (.inr (.inr (some 8))), some (.inr (.inr (some a1))), some (.inr (.inr (some a2))), some (.inl a3), some (.inl a4), some (.inl a5), some (.inl a6), some (.inl x25), some (.inr (.inr (some r48))), some (.inl 0), some (.inl x110), some (.inl x111), some (.inl x54), some (.inl x97), some (.inl x107), some (.inl z)]) rfl rfl (fun _ => rfl) (fun x255 e256 => ?_)
                            have t257 := ti_add e256 (by omega) (by omega)
                            refine ur_go rfl ?_
                            have z258 := any_r x255
                            exact ih115 x110 x111 x255 _ hO245 (hu116.tr (hu238.tr hu245)) (by omega) (by omega)
                          · have t259 := wi_to c253
                            refine ur_ldI rfl rfl ?_
                            refine ur_push rfl ?_
                            refine ur_if2 rfl (fun c260 => ?_) (fun c260 => ?_)
                            · have t261 := eq_to c260
                              exfalso
                              omega
                            · have t262 := eq_no c260
                              refine ur_ldI rfl rfl ?_
                              refine ur_ldI rfl rfl ?_
                              refine ur_if2 rfl (fun c263 => ?_) (fun c263 => ?_)
                              · have t264 := le_to c263
                                refine ur_incV (fun z => [some (.inr (.inr (some 8))), some (.inr (.inr (some a1))), some (.inr (.inr (some a2))), some (.inl a3), some (.inl a4), some (.inl a5), some (.inl a6), some (.inl x25), some (.inr (.inr (some r48))), some (.inl 0), some (.inl x110), some (.inl x111), some (.inl x54), some (.inl x97), some (.inl x107), some (.inl z)]) rfl rfl (fun _ => rfl) (fun x265 e266 => ?_)
                                have t267 := ti_add e266 (by omega) (by omega)
                                refine ur_go rfl ?_
                                have z268 := any_r x265
                                exact ih115 x110 x111 x265 _ hO245 (hu116.tr (hu238.tr hu245)) (by omega) (by omega)
                              · have t269 := le_no c263
                                refine ur_ldI rfl rfl ?_
                                refine ur_svIk [some (.inr (.inr (some 8))), some (.inr (.inr (some a1))), some (.inr (.inr (some a2))), some (.inl a3), some (.inl a4), some (.inl a5), some (.inl a6), some (.inl x25), some (.inr (.inr (some r48))), some (.inl 0), some (.inl x110), some (.inl x112), some (.inl x54), some (.inl x97), some (.inl x107), some (.inl x112)] rfl rfl ?_
                                refine ur_incV (fun z => [some (.inr (.inr (some 8))), some (.inr (.inr (some a1))), some (.inr (.inr (some a2))), some (.inl a3), some (.inl a4), some (.inl a5), some (.inl a6), some (.inl x25), some (.inr (.inr (some r48))), some (.inl 0), some (.inl x110), some (.inl x112), some (.inl x54), some (.inl x97), some (.inl x107), some (.inl z)]) rfl rfl (fun _ => rfl) (fun x270 e271 => ?_)
                                have t272 := ti_add e271 (by omega) (by omega)
                                refine ur_go rfl ?_
                                have z273 := any_r x270
                                exact ih115 x110 x112 x270 _ hO245 (hu116.tr (hu238.tr hu245)) (by omega) (by omega)
                        · refine ur_push rfl ?_
                          refine ur_svIk [some (.inr (.inr (some 8))), some (.inr (.inr (some a1))), some (.inr (.inr (some a2))), some (.inl a3), some (.inl a4), some (.inl a5), some (.inl a6), some (.inl x25), some (.inr (.inr (some r48))), some (.inl 0), some (.inl 1), some (.inl x111), some (.inl x54), some (.inl x97), some (.inl x107), some (.inl x112)] rfl rfl ?_
                          refine ur_go rfl ?_
                          refine ur_incV (fun z => [some (.inr (.inr (some 8))), some (.inr (.inr (some a1))), some (.inr (.inr (some a2))), some (.inl a3), some (.inl a4), some (.inl a5), some (.inl a6), some (.inl x25), some (.inr (.inr (some r48))), some (.inl 0), some (.inl 1), some (.inl x111), some (.inl x54), some (.inl x97), some (.inl x107), some (.inl z)]) rfl rfl (fun _ => rfl) (fun x274 e275 => ?_)
                          have t276 := ti_add e275 (by omega) (by omega)
                          refine ur_go rfl ?_
                          have z277 := any_r x274
                          exact ih115 1 x111 x274 _ hO245 (hu116.tr (hu238.tr hu245)) (by omega) (by omega)
                      · refine ur_go rfl ?_
                        refine ur_incV (fun z => [some (.inr (.inr (some 8))), some (.inr (.inr (some a1))), some (.inr (.inr (some a2))), some (.inl a3), some (.inl a4), some (.inl a5), some (.inl a6), some (.inl x25), some (.inr (.inr (some r48))), some (.inl 0), some (.inl x110), some (.inl x111), some (.inl x54), some (.inl x97), some (.inl x107), some (.inl z)]) rfl rfl (fun _ => rfl) (fun x278 e279 => ?_)
                        have t280 := ti_add e279 (by omega) (by omega)
                        refine ur_go rfl ?_
                        have z281 := any_r x278
                        exact ih115 x110 x111 x278 _ hO238 (hu116.tr hu238) (by omega) (by omega)
                    · have t282 := lt_no c231
                      refine ur_go rfl ?_
                      refine ur_incV (fun z => [some (.inr (.inr (some 8))), some (.inr (.inr (some a1))), some (.inr (.inr (some a2))), some (.inl a3), some (.inl a4), some (.inl a5), some (.inl a6), some (.inl x25), some (.inr (.inr (some r48))), some (.inl 0), some (.inl x110), some (.inl x111), some (.inl z), some (.inl x97), some (.inl x107), some (.inl x112)]) rfl rfl (fun _ => rfl) (fun x283 e284 => ?_)
                      have t285 := ti_add e284 (by omega) (by omega)
                      refine ur_go rfl ?_
                      have z286 := any_r x283
                      exact ih60 x110 x111 x283 _ _ _ _ hO116 (hu61.tr hu116) (by omega) (by omega)
          have z287 := any_r x97
          exact L113 _ x52 x53 x97 _ hO61 un.rf (by omega) (Nat.lt_succ_self _)
    exact L58 _ 1 (-1) 0 (none) (none) (none) _ hO0 un.rf (by omega) (Nat.lt_succ_self _)
  · have t288 := ne_no c50
    refine ur_push rfl ?_
    refine ur_go rfl ?_
    refine ur_svIk [some (.inr (.inr (some 8))), some (.inr (.inr (some a1))), some (.inr (.inr (some a2))), some (.inl a3), some (.inl a4), some (.inl a5), some (.inl a6), some (.inl x25), some (.inr (.inr (some r48))), some (.inl 1), none, none, none, none, none, none] rfl rfl ?_
    refine ur_ldI rfl rfl ?_
    refine ur_if1t rfl (by decide) ?_
    refine ur_push rfl ?_
    refine ur_svIk [some (.inr (.inr (some 8))), some (.inr (.inr (some a1))), some (.inr (.inr (some a2))), some (.inl a3), some (.inl a4), some (.inl a5), some (.inl a6), some (.inl x25), some (.inr (.inr (some r48))), some (.inl 1), some (.inl 0), none, none, none, none, none] rfl rfl ?_
    refine ur_push rfl ?_
    refine ur_svIk [some (.inr (.inr (some 8))), some (.inr (.inr (some a1))), some (.inr (.inr (some a2))), some (.inl a3), some (.inl a4), some (.inl a5), some (.inl a6), some (.inl x25), some (.inr (.inr (some r48))), some (.inl 1), some (.inl 0), some (.inl (-1)), none, none, none, none] rfl rfl ?_
    refine ur_push rfl ?_
    refine ur_svIk [some (.inr (.inr (some 8))), some (.inr (.inr (some a1))), some (.inr (.inr (some a2))), some (.inl a3), some (.inl a4), some (.inl a5), some (.inl a6), some (.inl x25), some (.inr (.inr (some r48))), some (.inl 1), some (.inl 0), some (.inl (-1)), some (.inl 0), none, none, none] rfl rfl ?_
    have L295 : ∀ (m296 : Nat) (x289 : Int32) (x290 : Int32) (x291 : Int32) (u292 : Option aV) (u293 : Option aV) (u294 : Option aV) (h298 : aH) , OK h298 → un [222, 223, 21212] h0 h298 → ((0 ≤ x291.toInt ∧ x291.toInt ≤ 2147483647)) → ((2147483648 - x291.toInt).toNat) < m296 → uRun oX5_fitDay (uCall Mt (d + 5)) Q 50 ([some (.inr (.inr (some 8))), some (.inr (.inr (some a1))), some (.inr (.inr (some a2))), some (.inl a3), some (.inl a4), some (.inl a5), some (.inl a6), some (.inl x25), some (.inr (.inr (some r48))), some (.inl 1), some (.inl x289), some (.inl x290), some (.inl x291), u292, u293, u294], [], h298, kc, ks) := by
      intro m296
      induction m296 with
      | zero => intro x289 x290 x291 u292 u293 u294 h298 hO298 hu298 iv299 mm300; omega
      | succ m296 ih297 =>
        intro x289 x290 x291 u292 u293 u294 h298 hO298 hu298 iv299 mm300
        refine ur_ldI rfl rfl ?_
        refine ur_ldA rfl rfl ?_
        obtain ⟨g317, f302, f303, f304, f305, f306, f307, f308, f309, f310, o314, f311, f312, f313, hc301, k315, k316⟩ := hO298.word (hu298.tm k49.2 (by decide))
        refine ur_get rfl hc301 rfl ?_
        have z318 := any_r x291
        have z319 := any_r f311
        refine ur_if2 rfl (fun c320 => ?_) (fun c320 => ?_)
        · have t321 := le_to c320
          refine ur_ldI rfl rfl ?_
          refine ur_if1 rfl (fun c322 => ?_) (fun c322 => ?_)
          · have t323 := eq_to c322
            refine ur_push rfl ?_
            exact ur_ret rfl rfl (hQ _ _ ⟨_, rfl⟩ hO298 hu298)
          · have t324 := eq_no c322
            refine ur_ldI rfl rfl ?_
            refine ur_go rfl ?_
            exact ur_ret rfl rfl (hQ _ _ ⟨_, rfl⟩ hO298 hu298)
        · have t325 := le_no c320
          refine ur_ldA rfl rfl ?_
          refine ur_ldI rfl rfl ?_
          refine ur_inl rfl (rcv_of hc301) (Nat.le_of_ble_eq_true rfl) (Nat.le_of_ble_eq_true rfl) (sf_X10_spanFrom hO298 g317 (hu298.tm k49.2 (by decide)) _ (fun w326 hr327 => ?_))
          obtain ⟨x328, rfl, t329⟩ := hr327
          show uRun _ (uCall Mt _) _ 67 (_, [(.inl x328)], _, _, _)
          refine ur_ldI rfl rfl ?_
          refine ur_ldI rfl rfl ?_
          refine ur_if1f rfl (by decide) ?_
          refine ur_push rfl ?_
          refine ur_go rfl ?_
          refine ur_binV rfl (fun x330 e331 => ?_)
          have z332 := any_r x25
          refine ur_maxV rfl (by show ¬ 9 ≤ 2; decide) (fun x333 t334 e335 => ?_)
          refine ur_svIk [some (.inr (.inr (some 8))), some (.inr (.inr (some a1))), some (.inr (.inr (some a2))), some (.inl a3), some (.inl a4), some (.inl a5), some (.inl a6), some (.inl x25), some (.inr (.inr (some r48))), some (.inl 1), some (.inl x289), some (.inl x290), some (.inl x291), some (.inl x333), u293, u294] rfl rfl ?_
          refine ur_ldA rfl rfl ?_
          refine ur_ldI rfl rfl ?_
          refine ur_inl rfl (rcv_of hc301) (Nat.le_of_ble_eq_true rfl) (Nat.le_of_ble_eq_true rfl) (sf_X10_spanTo hO298 g317 (hu298.tm k49.2 (by decide)) _ (fun w336 hr337 => ?_))
          obtain ⟨x338, rfl, t339⟩ := hr337
          show uRun _ (uCall Mt _) _ 94 (_, [(.inl x338)], _, _, _)
          refine ur_ldI rfl rfl ?_
          refine ur_ldI rfl rfl ?_
          refine ur_if1f rfl (by decide) ?_
          refine ur_push rfl ?_
          refine ur_go rfl ?_
          refine ur_binV rfl (fun x340 e341 => ?_)
          refine ur_minV rfl (by show ¬ 9 ≤ 2; decide) (fun x342 t343 e344 => ?_)
          refine ur_svIk [some (.inr (.inr (some 8))), some (.inr (.inr (some a1))), some (.inr (.inr (some a2))), some (.inl a3), some (.inl a4), some (.inl a5), some (.inl a6), some (.inl x25), some (.inr (.inr (some r48))), some (.inl 1), some (.inl x289), some (.inl x290), some (.inl x291), some (.inl x333), some (.inl x342), u294] rfl rfl ?_
          refine ur_ldI rfl rfl ?_
          refine ur_svIk [some (.inr (.inr (some 8))), some (.inr (.inr (some a1))), some (.inr (.inr (some a2))), some (.inl a3), some (.inl a4), some (.inl a5), some (.inl a6), some (.inl x25), some (.inr (.inr (some r48))), some (.inl 1), some (.inl x289), some (.inl x290), some (.inl x291), some (.inl x333), some (.inl x342), some (.inl x333)] rfl rfl ?_
          have L348 : ∀ (m349 : Nat) (x345 : Int32) (x346 : Int32) (x347 : Int32) (h351 : aH) , OK h351 → un [222, 223, 21212] h298 h351 → ((0 ≤ x347.toInt ∧ x347.toInt ≤ 2147483647)) → ((2147483648 - x347.toInt).toNat) < m349 → uRun oX5_fitDay (uCall Mt (d + 5)) Q 118 ([some (.inr (.inr (some 8))), some (.inr (.inr (some a1))), some (.inr (.inr (some a2))), some (.inl a3), some (.inl a4), some (.inl a5), some (.inl a6), some (.inl x25), some (.inr (.inr (some r48))), some (.inl 1), some (.inl x345), some (.inl x346), some (.inl x291), some (.inl x333), some (.inl x342), some (.inl x347)], [], h351, kc, ks) := by
            intro m349
            induction m349 with
            | zero => intro x345 x346 x347 h351 hO351 hu351 iv352 mm353; omega
            | succ m349 ih350 =>
              intro x345 x346 x347 h351 hO351 hu351 iv352 mm353
              refine ur_ldI rfl rfl ?_
              refine ur_ldI rfl rfl ?_
              have z354 := any_r x347
              have z355 := any_r x342
              refine ur_if2 rfl (fun c356 => ?_) (fun c356 => ?_)
              · have t357 := lt_to c356
                refine ur_incV (fun z => [some (.inr (.inr (some 8))), some (.inr (.inr (some a1))), some (.inr (.inr (some a2))), some (.inl a3), some (.inl a4), some (.inl a5), some (.inl a6), some (.inl x25), some (.inr (.inr (some r48))), some (.inl 1), some (.inl x345), some (.inl x346), some (.inl z), some (.inl x333), some (.inl x342), some (.inl x347)]) rfl rfl (fun _ => rfl) (fun x358 e359 => ?_)
                have t360 := ti_add e359 (by omega) (by omega)
                refine ur_go rfl ?_
                have z361 := any_r x358
                exact ih297 x345 x346 x358 _ _ _ _ hO351 (hu298.tr hu351) (by omega) (by omega)
              · have t362 := lt_no c356
                refine ur_ldI rfl rfl ?_
                refine ur_if1 rfl (fun c363 => ?_) (fun c363 => ?_)
                · have t364 := eq_to c363
                  refine ur_ldA rfl rfl ?_
                  refine ur_ldA rfl rfl ?_
                  refine ur_ldA rfl rfl ?_
                  refine ur_get rfl (hu351.ko (n := 13) (hu298.ko (n := 13) hc29 rfl (wid_w g45) (by decide)) rfl (wid_w g45) (by decide)) rfl ?_
                  refine ur_ldI rfl rfl ?_
                  refine ur_ldI rfl rfl ?_
                  refine ur_ldI rfl rfl ?_
                  obtain ⟨f366, hc365, k367⟩ := ok_8 hO351
                  refine ur_inl rfl (rcv_of hc365) (Nat.le_of_ble_eq_true rfl) (Nat.le_of_ble_eq_true rfl) (sf_X5_seenOn hO351 g21 (hu351.tm (hu298.tm t2 (by decide)) (by decide)) _ (by show 0 ≤ f32.toInt ∧ f32.toInt ≤ 8; omega) _ (by show -60 ≤ a3.toInt ∧ a3.toInt ≤ 60; omega) _ _ (fun w368 h370 hr369 hO370 hv370 => ?_))
                  have hu370 := hv370
                  obtain ⟨b371, rfl⟩ := hr369
                  show uRun _ (uCall Mt _) _ 160 (_, [(.inl (bi b371))], _, _, _)
                  refine ur_neB rfl (fun c372 => ?_) (fun c372 => ?_)
                  · refine ur_ldA rfl rfl ?_
                    refine ur_ldA rfl rfl ?_
                    refine ur_ldA rfl rfl ?_
                    refine ur_ldI rfl rfl ?_
                    refine ur_ldI rfl rfl ?_
                    refine ur_binV rfl (fun x373 e374 => ?_)
                    refine ur_ldI rfl rfl ?_
                    refine ur_inl rfl (rcv_of (hv370.ko (n := 5) hc365 rfl (wid_f (by decide)) (by decide))) (Nat.le_of_ble_eq_true rfl) (Nat.le_of_ble_eq_true rfl) (sf_X5_isAsSaid hO370 g45 (hu370.tm (hu351.tm (hu298.tm t1 (by decide)) (by decide)) (by decide)) g21 (hu370.tm (hu351.tm (hu298.tm t2 (by decide)) (by decide)) (by decide)) _ _ (fun w375 h377 hr376 hO377 hv377 => ?_))
                    have hu377 : un [222, 223, 21212] h370 h377 := hv377.mono (by decide)
                    obtain ⟨b378, rfl⟩ := hr376
                    show uRun _ (uCall Mt _) _ 179 (_, [(.inl (bi b378))], _, _, _)
                    refine ur_neB rfl (fun c379 => ?_) (fun c379 => ?_)
                    · refine ur_ldI rfl rfl ?_
                      refine ur_ldI rfl rfl ?_
                      refine ur_binV rfl (fun x380 e381 => ?_)
                      have t382 : x380.toInt = x373.toInt := congrArg Int32.toInt (e381.symm.trans e374)
                      refine ur_ldI rfl rfl ?_
                      refine ur_ldI rfl rfl ?_
                      refine ur_callv rfl rfl (Nat.le_of_ble_eq_true rfl) (Nat.le_of_ble_eq_true rfl) rfl (sp_within _ _ _ _ _) ?_
                      refine ur_eqB rfl (fun c385 => ?_) (fun c385 => ?_)
                      · have t386 := wi_no c385
                        refine ur_incV (fun z => [some (.inr (.inr (some 8))), some (.inr (.inr (some a1))), some (.inr (.inr (some a2))), some (.inl a3), some (.inl a4), some (.inl a5), some (.inl a6), some (.inl x25), some (.inr (.inr (some r48))), some (.inl 1), some (.inl x345), some (.inl x346), some (.inl x291), some (.inl x333), some (.inl x342), some (.inl z)]) rfl rfl (fun _ => rfl) (fun x387 e388 => ?_)
                        have t389 := ti_add e388 (by omega) (by omega)
                        refine ur_go rfl ?_
                        have z390 := any_r x387
                        exact ih350 x345 x346 x387 _ hO377 (hu351.tr (hu370.tr hu377)) (by omega) (by omega)
                      · have t391 := wi_to c385
                        refine ur_ldI rfl rfl ?_
                        refine ur_push rfl ?_
                        refine ur_if2 rfl (fun c392 => ?_) (fun c392 => ?_)
                        · have t393 := eq_to c392
                          refine ur_ldI rfl rfl ?_
                          refine ur_svIk [some (.inr (.inr (some 8))), some (.inr (.inr (some a1))), some (.inr (.inr (some a2))), some (.inl a3), some (.inl a4), some (.inl a5), some (.inl a6), some (.inl x25), some (.inr (.inr (some r48))), some (.inl 1), some (.inl x345), some (.inl x347), some (.inl x291), some (.inl x333), some (.inl x342), some (.inl x347)] rfl rfl ?_
                          refine ur_incV (fun z => [some (.inr (.inr (some 8))), some (.inr (.inr (some a1))), some (.inr (.inr (some a2))), some (.inl a3), some (.inl a4), some (.inl a5), some (.inl a6), some (.inl x25), some (.inr (.inr (some r48))), some (.inl 1), some (.inl x345), some (.inl x347), some (.inl x291), some (.inl x333), some (.inl x342), some (.inl z)]) rfl rfl (fun _ => rfl) (fun x394 e395 => ?_)
                          have t396 := ti_add e395 (by omega) (by omega)
                          refine ur_go rfl ?_
                          have z397 := any_r x394
                          exact ih350 x345 x347 x394 _ hO377 (hu351.tr (hu370.tr hu377)) (by omega) (by omega)
                        · have t398 := eq_no c392
                          refine ur_ldI rfl rfl ?_
                          refine ur_ldI rfl rfl ?_
                          have z399 := any_r x346
                          refine ur_if2 rfl (fun c400 => ?_) (fun c400 => ?_)
                          · have t401 := le_to c400
                            refine ur_incV (fun z => [some (.inr (.inr (some 8))), some (.inr (.inr (some a1))), some (.inr (.inr (some a2))), some (.inl a3), some (.inl a4), some (.inl a5), some (.inl a6), some (.inl x25), some (.inr (.inr (some r48))), some (.inl 1), some (.inl x345), some (.inl x346), some (.inl x291), some (.inl x333), some (.inl x342), some (.inl z)]) rfl rfl (fun _ => rfl) (fun x402 e403 => ?_)
                            have t404 := ti_add e403 (by omega) (by omega)
                            refine ur_go rfl ?_
                            have z405 := any_r x402
                            exact ih350 x345 x346 x402 _ hO377 (hu351.tr (hu370.tr hu377)) (by omega) (by omega)
                          · have t406 := le_no c400
                            refine ur_ldI rfl rfl ?_
                            refine ur_svIk [some (.inr (.inr (some 8))), some (.inr (.inr (some a1))), some (.inr (.inr (some a2))), some (.inl a3), some (.inl a4), some (.inl a5), some (.inl a6), some (.inl x25), some (.inr (.inr (some r48))), some (.inl 1), some (.inl x345), some (.inl x347), some (.inl x291), some (.inl x333), some (.inl x342), some (.inl x347)] rfl rfl ?_
                            refine ur_incV (fun z => [some (.inr (.inr (some 8))), some (.inr (.inr (some a1))), some (.inr (.inr (some a2))), some (.inl a3), some (.inl a4), some (.inl a5), some (.inl a6), some (.inl x25), some (.inr (.inr (some r48))), some (.inl 1), some (.inl x345), some (.inl x347), some (.inl x291), some (.inl x333), some (.inl x342), some (.inl z)]) rfl rfl (fun _ => rfl) (fun x407 e408 => ?_)
                            have t409 := ti_add e408 (by omega) (by omega)
                            refine ur_go rfl ?_
                            have z410 := any_r x407
                            exact ih350 x345 x347 x407 _ hO377 (hu351.tr (hu370.tr hu377)) (by omega) (by omega)
                    · refine ur_push rfl ?_
                      refine ur_svIk [some (.inr (.inr (some 8))), some (.inr (.inr (some a1))), some (.inr (.inr (some a2))), some (.inl a3), some (.inl a4), some (.inl a5), some (.inl a6), some (.inl x25), some (.inr (.inr (some r48))), some (.inl 1), some (.inl 1), some (.inl x346), some (.inl x291), some (.inl x333), some (.inl x342), some (.inl x347)] rfl rfl ?_
                      refine ur_go rfl ?_
                      refine ur_incV (fun z => [some (.inr (.inr (some 8))), some (.inr (.inr (some a1))), some (.inr (.inr (some a2))), some (.inl a3), some (.inl a4), some (.inl a5), some (.inl a6), some (.inl x25), some (.inr (.inr (some r48))), some (.inl 1), some (.inl 1), some (.inl x346), some (.inl x291), some (.inl x333), some (.inl x342), some (.inl z)]) rfl rfl (fun _ => rfl) (fun x411 e412 => ?_)
                      have t413 := ti_add e412 (by omega) (by omega)
                      refine ur_go rfl ?_
                      have z414 := any_r x411
                      exact ih350 1 x346 x411 _ hO377 (hu351.tr (hu370.tr hu377)) (by omega) (by omega)
                  · refine ur_go rfl ?_
                    refine ur_incV (fun z => [some (.inr (.inr (some 8))), some (.inr (.inr (some a1))), some (.inr (.inr (some a2))), some (.inl a3), some (.inl a4), some (.inl a5), some (.inl a6), some (.inl x25), some (.inr (.inr (some r48))), some (.inl 1), some (.inl x345), some (.inl x346), some (.inl x291), some (.inl x333), some (.inl x342), some (.inl z)]) rfl rfl (fun _ => rfl) (fun x415 e416 => ?_)
                    have t417 := ti_add e416 (by omega) (by omega)
                    refine ur_go rfl ?_
                    have z418 := any_r x415
                    exact ih350 x345 x346 x415 _ hO370 (hu351.tr hu370) (by omega) (by omega)
                · have t419 := eq_no c363
                  refine ur_ldI rfl rfl ?_
                  refine ur_push rfl ?_
                  refine ur_if2 rfl (fun c420 => ?_) (fun c420 => ?_)
                  · have t421 := eq_to c420
                    refine ur_ldA rfl rfl ?_
                    refine ur_ldA rfl rfl ?_
                    refine ur_ldA rfl rfl ?_
                    refine ur_get rfl (hu351.ko (n := 13) (hu298.ko (n := 13) hc29 rfl (wid_w g45) (by decide)) rfl (wid_w g45) (by decide)) rfl ?_
                    refine ur_ldI rfl rfl ?_
                    refine ur_ldI rfl rfl ?_
                    refine ur_ldI rfl rfl ?_
                    obtain ⟨f423, hc422, k424⟩ := ok_8 hO351
                    refine ur_inl rfl (rcv_of hc422) (Nat.le_of_ble_eq_true rfl) (Nat.le_of_ble_eq_true rfl) (sf_X5_seenOn hO351 g21 (hu351.tm (hu298.tm t2 (by decide)) (by decide)) _ (by show 0 ≤ f32.toInt ∧ f32.toInt ≤ 8; omega) _ (by show -60 ≤ a3.toInt ∧ a3.toInt ≤ 60; omega) _ _ (fun w425 h427 hr426 hO427 hv427 => ?_))
                    have hu427 := hv427
                    obtain ⟨b428, rfl⟩ := hr426
                    show uRun _ (uCall Mt _) _ 160 (_, [(.inl (bi b428))], _, _, _)
                    refine ur_neB rfl (fun c429 => ?_) (fun c429 => ?_)
                    · refine ur_ldA rfl rfl ?_
                      refine ur_ldA rfl rfl ?_
                      refine ur_ldA rfl rfl ?_
                      refine ur_ldI rfl rfl ?_
                      refine ur_ldI rfl rfl ?_
                      refine ur_binV rfl (fun x430 e431 => ?_)
                      refine ur_ldI rfl rfl ?_
                      refine ur_inl rfl (rcv_of (hv427.ko (n := 5) hc422 rfl (wid_f (by decide)) (by decide))) (Nat.le_of_ble_eq_true rfl) (Nat.le_of_ble_eq_true rfl) (sf_X5_isAsSaid hO427 g45 (hu427.tm (hu351.tm (hu298.tm t1 (by decide)) (by decide)) (by decide)) g21 (hu427.tm (hu351.tm (hu298.tm t2 (by decide)) (by decide)) (by decide)) _ _ (fun w432 h434 hr433 hO434 hv434 => ?_))
                      have hu434 : un [222, 223, 21212] h427 h434 := hv434.mono (by decide)
                      obtain ⟨b435, rfl⟩ := hr433
                      show uRun _ (uCall Mt _) _ 179 (_, [(.inl (bi b435))], _, _, _)
                      refine ur_neB rfl (fun c436 => ?_) (fun c436 => ?_)
                      · refine ur_ldI rfl rfl ?_
                        refine ur_ldI rfl rfl ?_
                        refine ur_binV rfl (fun x437 e438 => ?_)
                        have t439 : x437.toInt = x430.toInt := congrArg Int32.toInt (e438.symm.trans e431)
                        refine ur_ldI rfl rfl ?_
                        refine ur_ldI rfl rfl ?_
                        refine ur_callv rfl rfl (Nat.le_of_ble_eq_true rfl) (Nat.le_of_ble_eq_true rfl) rfl (sp_within _ _ _ _ _) ?_
                        refine ur_eqB rfl (fun c442 => ?_) (fun c442 => ?_)
                        · have t443 := wi_no c442
                          refine ur_incV (fun z => [some (.inr (.inr (some 8))), some (.inr (.inr (some a1))), some (.inr (.inr (some a2))), some (.inl a3), some (.inl a4), some (.inl a5), some (.inl a6), some (.inl x25), some (.inr (.inr (some r48))), some (.inl 1), some (.inl x345), some (.inl x346), some (.inl x291), some (.inl x333), some (.inl x342), some (.inl z)]) rfl rfl (fun _ => rfl) (fun x444 e445 => ?_)
                          have t446 := ti_add e445 (by omega) (by omega)
                          refine ur_go rfl ?_
                          have z447 := any_r x444
                          exact ih350 x345 x346 x444 _ hO434 (hu351.tr (hu427.tr hu434)) (by omega) (by omega)
                        · have t448 := wi_to c442
                          refine ur_ldI rfl rfl ?_
                          refine ur_push rfl ?_
                          refine ur_if2 rfl (fun c449 => ?_) (fun c449 => ?_)
                          · have t450 := eq_to c449
                            refine ur_ldI rfl rfl ?_
                            refine ur_svIk [some (.inr (.inr (some 8))), some (.inr (.inr (some a1))), some (.inr (.inr (some a2))), some (.inl a3), some (.inl a4), some (.inl a5), some (.inl a6), some (.inl x25), some (.inr (.inr (some r48))), some (.inl 1), some (.inl x345), some (.inl x347), some (.inl x291), some (.inl x333), some (.inl x342), some (.inl x347)] rfl rfl ?_
                            refine ur_incV (fun z => [some (.inr (.inr (some 8))), some (.inr (.inr (some a1))), some (.inr (.inr (some a2))), some (.inl a3), some (.inl a4), some (.inl a5), some (.inl a6), some (.inl x25), some (.inr (.inr (some r48))), some (.inl 1), some (.inl x345), some (.inl x347), some (.inl x291), some (.inl x333), some (.inl x342), some (.inl z)]) rfl rfl (fun _ => rfl) (fun x451 e452 => ?_)
                            have t453 := ti_add e452 (by omega) (by omega)
                            refine ur_go rfl ?_
                            have z454 := any_r x451
                            exact ih350 x345 x347 x451 _ hO434 (hu351.tr (hu427.tr hu434)) (by omega) (by omega)
                          · have t455 := eq_no c449
                            exfalso
                            omega
                      · refine ur_push rfl ?_
                        refine ur_svIk [some (.inr (.inr (some 8))), some (.inr (.inr (some a1))), some (.inr (.inr (some a2))), some (.inl a3), some (.inl a4), some (.inl a5), some (.inl a6), some (.inl x25), some (.inr (.inr (some r48))), some (.inl 1), some (.inl 1), some (.inl x346), some (.inl x291), some (.inl x333), some (.inl x342), some (.inl x347)] rfl rfl ?_
                        refine ur_go rfl ?_
                        refine ur_incV (fun z => [some (.inr (.inr (some 8))), some (.inr (.inr (some a1))), some (.inr (.inr (some a2))), some (.inl a3), some (.inl a4), some (.inl a5), some (.inl a6), some (.inl x25), some (.inr (.inr (some r48))), some (.inl 1), some (.inl 1), some (.inl x346), some (.inl x291), some (.inl x333), some (.inl x342), some (.inl z)]) rfl rfl (fun _ => rfl) (fun x456 e457 => ?_)
                        have t458 := ti_add e457 (by omega) (by omega)
                        refine ur_go rfl ?_
                        have z459 := any_r x456
                        exact ih350 1 x346 x456 _ hO434 (hu351.tr (hu427.tr hu434)) (by omega) (by omega)
                    · refine ur_go rfl ?_
                      refine ur_incV (fun z => [some (.inr (.inr (some 8))), some (.inr (.inr (some a1))), some (.inr (.inr (some a2))), some (.inl a3), some (.inl a4), some (.inl a5), some (.inl a6), some (.inl x25), some (.inr (.inr (some r48))), some (.inl 1), some (.inl x345), some (.inl x346), some (.inl x291), some (.inl x333), some (.inl x342), some (.inl z)]) rfl rfl (fun _ => rfl) (fun x460 e461 => ?_)
                      have t462 := ti_add e461 (by omega) (by omega)
                      refine ur_go rfl ?_
                      have z463 := any_r x460
                      exact ih350 x345 x346 x460 _ hO427 (hu351.tr hu427) (by omega) (by omega)
                  · have t464 := eq_no c420
                    refine ur_ldI rfl rfl ?_
                    refine ur_ldI rfl rfl ?_
                    have z465 := any_r x346
                    refine ur_if2 rfl (fun c466 => ?_) (fun c466 => ?_)
                    · have t467 := lt_to c466
                      refine ur_ldA rfl rfl ?_
                      refine ur_ldA rfl rfl ?_
                      refine ur_ldA rfl rfl ?_
                      refine ur_get rfl (hu351.ko (n := 13) (hu298.ko (n := 13) hc29 rfl (wid_w g45) (by decide)) rfl (wid_w g45) (by decide)) rfl ?_
                      refine ur_ldI rfl rfl ?_
                      refine ur_ldI rfl rfl ?_
                      refine ur_ldI rfl rfl ?_
                      obtain ⟨f469, hc468, k470⟩ := ok_8 hO351
                      refine ur_inl rfl (rcv_of hc468) (Nat.le_of_ble_eq_true rfl) (Nat.le_of_ble_eq_true rfl) (sf_X5_seenOn hO351 g21 (hu351.tm (hu298.tm t2 (by decide)) (by decide)) _ (by show 0 ≤ f32.toInt ∧ f32.toInt ≤ 8; omega) _ (by show -60 ≤ a3.toInt ∧ a3.toInt ≤ 60; omega) _ _ (fun w471 h473 hr472 hO473 hv473 => ?_))
                      have hu473 := hv473
                      obtain ⟨b474, rfl⟩ := hr472
                      show uRun _ (uCall Mt _) _ 160 (_, [(.inl (bi b474))], _, _, _)
                      refine ur_neB rfl (fun c475 => ?_) (fun c475 => ?_)
                      · refine ur_ldA rfl rfl ?_
                        refine ur_ldA rfl rfl ?_
                        refine ur_ldA rfl rfl ?_
                        refine ur_ldI rfl rfl ?_
                        refine ur_ldI rfl rfl ?_
                        refine ur_binV rfl (fun x476 e477 => ?_)
                        refine ur_ldI rfl rfl ?_
                        refine ur_inl rfl (rcv_of (hv473.ko (n := 5) hc468 rfl (wid_f (by decide)) (by decide))) (Nat.le_of_ble_eq_true rfl) (Nat.le_of_ble_eq_true rfl) (sf_X5_isAsSaid hO473 g45 (hu473.tm (hu351.tm (hu298.tm t1 (by decide)) (by decide)) (by decide)) g21 (hu473.tm (hu351.tm (hu298.tm t2 (by decide)) (by decide)) (by decide)) _ _ (fun w478 h480 hr479 hO480 hv480 => ?_))
                        have hu480 : un [222, 223, 21212] h473 h480 := hv480.mono (by decide)
                        obtain ⟨b481, rfl⟩ := hr479
                        show uRun _ (uCall Mt _) _ 179 (_, [(.inl (bi b481))], _, _, _)
                        refine ur_neB rfl (fun c482 => ?_) (fun c482 => ?_)
                        · refine ur_ldI rfl rfl ?_
                          refine ur_ldI rfl rfl ?_
                          refine ur_binV rfl (fun x483 e484 => ?_)
                          have t485 : x483.toInt = x476.toInt := congrArg Int32.toInt (e484.symm.trans e477)
                          refine ur_ldI rfl rfl ?_
                          refine ur_ldI rfl rfl ?_
                          refine ur_callv rfl rfl (Nat.le_of_ble_eq_true rfl) (Nat.le_of_ble_eq_true rfl) rfl (sp_within _ _ _ _ _) ?_
                          refine ur_eqB rfl (fun c488 => ?_) (fun c488 => ?_)
                          · have t489 := wi_no c488
                            refine ur_incV (fun z => [some (.inr (.inr (some 8))), some (.inr (.inr (some a1))), some (.inr (.inr (some a2))), some (.inl a3), some (.inl a4), some (.inl a5), some (.inl a6), some (.inl x25), some (.inr (.inr (some r48))), some (.inl 1), some (.inl x345), some (.inl x346), some (.inl x291), some (.inl x333), some (.inl x342), some (.inl z)]) rfl rfl (fun _ => rfl) (fun x490 e491 => ?_)
                            have t492 := ti_add e491 (by omega) (by omega)
                            refine ur_go rfl ?_
                            have z493 := any_r x490
                            exact ih350 x345 x346 x490 _ hO480 (hu351.tr (hu473.tr hu480)) (by omega) (by omega)
                          · have t494 := wi_to c488
                            refine ur_ldI rfl rfl ?_
                            refine ur_push rfl ?_
                            refine ur_if2 rfl (fun c495 => ?_) (fun c495 => ?_)
                            · have t496 := eq_to c495
                              exfalso
                              omega
                            · have t497 := eq_no c495
                              refine ur_ldI rfl rfl ?_
                              refine ur_ldI rfl rfl ?_
                              refine ur_if2 rfl (fun c498 => ?_) (fun c498 => ?_)
                              · have t499 := le_to c498
                                refine ur_incV (fun z => [some (.inr (.inr (some 8))), some (.inr (.inr (some a1))), some (.inr (.inr (some a2))), some (.inl a3), some (.inl a4), some (.inl a5), some (.inl a6), some (.inl x25), some (.inr (.inr (some r48))), some (.inl 1), some (.inl x345), some (.inl x346), some (.inl x291), some (.inl x333), some (.inl x342), some (.inl z)]) rfl rfl (fun _ => rfl) (fun x500 e501 => ?_)
                                have t502 := ti_add e501 (by omega) (by omega)
                                refine ur_go rfl ?_
                                have z503 := any_r x500
                                exact ih350 x345 x346 x500 _ hO480 (hu351.tr (hu473.tr hu480)) (by omega) (by omega)
                              · have t504 := le_no c498
                                refine ur_ldI rfl rfl ?_
                                refine ur_svIk [some (.inr (.inr (some 8))), some (.inr (.inr (some a1))), some (.inr (.inr (some a2))), some (.inl a3), some (.inl a4), some (.inl a5), some (.inl a6), some (.inl x25), some (.inr (.inr (some r48))), some (.inl 1), some (.inl x345), some (.inl x347), some (.inl x291), some (.inl x333), some (.inl x342), some (.inl x347)] rfl rfl ?_
                                refine ur_incV (fun z => [some (.inr (.inr (some 8))), some (.inr (.inr (some a1))), some (.inr (.inr (some a2))), some (.inl a3), some (.inl a4), some (.inl a5), some (.inl a6), some (.inl x25), some (.inr (.inr (some r48))), some (.inl 1), some (.inl x345), some (.inl x347), some (.inl x291), some (.inl x333), some (.inl x342), some (.inl z)]) rfl rfl (fun _ => rfl) (fun x505 e506 => ?_)
                                have t507 := ti_add e506 (by omega) (by omega)
                                refine ur_go rfl ?_
                                have z508 := any_r x505
                                exact ih350 x345 x347 x505 _ hO480 (hu351.tr (hu473.tr hu480)) (by omega) (by omega)
                        · refine ur_push rfl ?_
                          refine ur_svIk [some (.inr (.inr (some 8))), some (.inr (.inr (some a1))), some (.inr (.inr (some a2))), some (.inl a3), some (.inl a4), some (.inl a5), some (.inl a6), some (.inl x25), some (.inr (.inr (some r48))), some (.inl 1), some (.inl 1), some (.inl x346), some (.inl x291), some (.inl x333), some (.inl x342), some (.inl x347)] rfl rfl ?_
                          refine ur_go rfl ?_
                          refine ur_incV (fun z => [some (.inr (.inr (some 8))), some (.inr (.inr (some a1))), some (.inr (.inr (some a2))), some (.inl a3), some (.inl a4), some (.inl a5), some (.inl a6), some (.inl x25), some (.inr (.inr (some r48))), some (.inl 1), some (.inl 1), some (.inl x346), some (.inl x291), some (.inl x333), some (.inl x342), some (.inl z)]) rfl rfl (fun _ => rfl) (fun x509 e510 => ?_)
                          have t511 := ti_add e510 (by omega) (by omega)
                          refine ur_go rfl ?_
                          have z512 := any_r x509
                          exact ih350 1 x346 x509 _ hO480 (hu351.tr (hu473.tr hu480)) (by omega) (by omega)
                      · refine ur_go rfl ?_
                        refine ur_incV (fun z => [some (.inr (.inr (some 8))), some (.inr (.inr (some a1))), some (.inr (.inr (some a2))), some (.inl a3), some (.inl a4), some (.inl a5), some (.inl a6), some (.inl x25), some (.inr (.inr (some r48))), some (.inl 1), some (.inl x345), some (.inl x346), some (.inl x291), some (.inl x333), some (.inl x342), some (.inl z)]) rfl rfl (fun _ => rfl) (fun x513 e514 => ?_)
                        have t515 := ti_add e514 (by omega) (by omega)
                        refine ur_go rfl ?_
                        have z516 := any_r x513
                        exact ih350 x345 x346 x513 _ hO473 (hu351.tr hu473) (by omega) (by omega)
                    · have t517 := lt_no c466
                      refine ur_go rfl ?_
                      refine ur_incV (fun z => [some (.inr (.inr (some 8))), some (.inr (.inr (some a1))), some (.inr (.inr (some a2))), some (.inl a3), some (.inl a4), some (.inl a5), some (.inl a6), some (.inl x25), some (.inr (.inr (some r48))), some (.inl 1), some (.inl x345), some (.inl x346), some (.inl z), some (.inl x333), some (.inl x342), some (.inl x347)]) rfl rfl (fun _ => rfl) (fun x518 e519 => ?_)
                      have t520 := ti_add e519 (by omega) (by omega)
                      refine ur_go rfl ?_
                      have z521 := any_r x518
                      exact ih297 x345 x346 x518 _ _ _ _ hO351 (hu298.tr hu351) (by omega) (by omega)
          have z522 := any_r x333
          exact L348 _ x289 x290 x333 _ hO298 un.rf (by omega) (Nat.lt_succ_self _)
    exact L295 _ 0 (-1) 0 (none) (none) (none) _ hO0 un.rf (by omega) (Nat.lt_succ_self _)

set_option maxRecDepth 20000 in
set_option maxHeartbeats 4000000 in
theorem sf_X5_goneBehind {d kc ks : Nat} {h0 : aH} {Q : Option aV → aH → Prop} (hO0 : OK h0) {a1 : Nat} (g1 : 114 ≤ a1) (t1 : tg h0 a1 = (110, 13)) {a2 : Nat} (g2 : 114 ≤ a2) (t2 : tg h0 a2 = (110, 13)) {a3 : Nat} (g3 : 114 ≤ a3) (t3 : tg h0 a3 = (102, 14)) (a4 : Int32) (b4 : -60 ≤ a4.toInt ∧ a4.toInt ≤ 60) (hQ : ∀ r h', (∃ q, r = some (.inl (bi q))) → OK h' → un [222, 223, 21212] h0 h' → Q r h') : uCall Mt (d + 7) 54 [(.inr (.inr (some 8))), (.inr (.inr (some a1))), (.inr (.inr (some a2))), (.inr (.inr (some a3))), (.inl a4)] h0 kc ks Q := by
  have l_m120 : ((-120) : Int32).toInt = -120 := by decide
  have l_m1 : ((-1) : Int32).toInt = -1 := by decide
  have l_0 : ((0) : Int32).toInt = 0 := by decide
  have l_1 : ((1) : Int32).toInt = 1 := by decide
  have l_120 : ((120) : Int32).toInt = 120 := by decide
  refine uc_ink [some (.inr (.inr (some 8))), some (.inr (.inr (some a1))), some (.inr (.inr (some a2))), some (.inr (.inr (some a3))), some (.inl a4)] mt_54 (Nat.le_of_ble_eq_true rfl) rfl ?_
  refine ur_ldA rfl rfl ?_
  refine ur_ldA rfl rfl ?_
  refine ur_ldA rfl rfl ?_
  refine ur_ldI rfl rfl ?_
  refine ur_push rfl ?_
  refine ur_push rfl ?_
  refine ur_push rfl ?_
  obtain ⟨f2, hc1, k3⟩ := ok_8 hO0
  refine ur_inl rfl (rcv_of hc1) (Nat.le_of_ble_eq_true rfl) (Nat.le_of_ble_eq_true rfl) (sf_X5_fitDay hO0 g1 t1 g3 t3 _ (by show -60 ≤ a4.toInt ∧ a4.toInt ≤ 60; omega) _ _ _ (fun w4 h6 hr5 hO6 hv6 => ?_))
  have hu6 := hv6
  obtain ⟨x7, rfl⟩ := hr5
  show uRun _ (uCall Mt _) _ 12 (_, [(.inl x7)], _, _, _)
  refine ur_push rfl ?_
  refine ur_if2 rfl (fun c8 => ?_) (fun c8 => ?_)
  · have t9 := eq_to c8
    refine ur_push rfl ?_
    exact ur_ret rfl rfl (hQ _ _ ⟨false, rfl⟩ hO6 hu6)
  · have t10 := eq_no c8
    refine ur_ldA rfl rfl ?_
    refine ur_ldA rfl rfl ?_
    refine ur_ldA rfl rfl ?_
    refine ur_ldI rfl rfl ?_
    refine ur_push rfl ?_
    refine ur_push rfl ?_
    refine ur_push rfl ?_
    refine ur_inl rfl (rcv_of (hv6.ko (n := 5) hc1 rfl (wid_f (by decide)) (by decide))) (Nat.le_of_ble_eq_true rfl) (Nat.le_of_ble_eq_true rfl) (sf_X5_fitDay hO6 g2 (hu6.tm t2 (by decide)) g3 (hu6.tm t3 (by decide)) _ (by show -60 ≤ a4.toInt ∧ a4.toInt ≤ 60; omega) _ _ _ (fun w11 h13 hr12 hO13 hv13 => ?_))
    have hu13 := hv13
    obtain ⟨x14, rfl⟩ := hr12
    show uRun _ (uCall Mt _) _ 28 (_, [(.inl x14)], _, _, _)
    refine ur_push rfl ?_
    refine ur_if2 rfl (fun c15 => ?_) (fun c15 => ?_)
    · have t16 := eq_to c15
      refine ur_push rfl ?_
      exact ur_ret rfl rfl (hQ _ _ ⟨false, rfl⟩ hO13 (hu6.tr hu13))
    · have t17 := eq_no c15
      refine ur_push rfl ?_
      refine ur_go rfl ?_
      exact ur_ret rfl rfl (hQ _ _ ⟨true, rfl⟩ hO13 (hu6.tr hu13))

set_option maxRecDepth 20000 in
set_option maxHeartbeats 4000000 in
theorem sf_X7_leastMove {d kc ks : Nat} {h0 : aH} {Q : Option aV → aH → Prop} (hO0 : OK h0) {a1 : Nat} (g1 : 114 ≤ a1) (t1 : tg h0 a1 = (110, 13)) {a2 : Nat} (g2 : 114 ≤ a2) (t2 : tg h0 a2 = (102, 14)) (a3 : Int32) (b3 : -60 ≤ a3.toInt ∧ a3.toInt ≤ 60) (hQ : ∀ r h', (∃ x, r = some (.inl x)) → OK h' → un [222, 223, 21212] h0 h' → Q r h') : uCall Mt (d + 7) 73 [(.inr (.inr (some 41))), (.inr (.inr (some a1))), (.inr (.inr (some a2))), (.inl a3)] h0 kc ks Q := by
  have l_m120 : ((-120) : Int32).toInt = -120 := by decide
  have l_m2 : ((-2) : Int32).toInt = -2 := by decide
  have l_m1 : ((-1) : Int32).toInt = -1 := by decide
  have l_0 : ((0) : Int32).toInt = 0 := by decide
  have l_1 : ((1) : Int32).toInt = 1 := by decide
  have l_2 : ((2) : Int32).toInt = 2 := by decide
  have l_20 : ((20) : Int32).toInt = 20 := by decide
  have l_120 : ((120) : Int32).toInt = 120 := by decide
  have l_999999 : ((999999) : Int32).toInt = 999999 := by decide
  refine uc_ink [some (.inr (.inr (some 41))), some (.inr (.inr (some a1))), some (.inr (.inr (some a2))), some (.inl a3), none, none, none, none, none, none, none] mt_73 (Nat.le_of_ble_eq_true rfl) rfl ?_
  refine ur_ldA rfl rfl ?_
  obtain ⟨f2, f3, hc1, k4⟩ := ok_41 hO0
  refine ur_get rfl hc1 rfl ?_
  refine ur_ldI rfl rfl ?_
  obtain ⟨f6, f7, hc5, k8⟩ := ok_1 hO0
  refine ur_inl rfl (rcv_of hc5) (Nat.le_of_ble_eq_true rfl) (Nat.le_of_ble_eq_true rfl) (sf_X6_wideOf hO0 _ (by show -60 ≤ a3.toInt ∧ a3.toInt ≤ 60; omega) (fun w9 hr10 => ?_))
  obtain ⟨x11, rfl, t12⟩ := hr10
  show uRun _ (uCall Mt _) _ 8 (_, [(.inl x11)], _, _, _)
  refine ur_svIk [some (.inr (.inr (some 41))), some (.inr (.inr (some a1))), some (.inr (.inr (some a2))), some (.inl a3), some (.inl x11), none, none, none, none, none, none] rfl rfl ?_
  refine ur_push rfl ?_
  refine ur_ldI rfl rfl ?_
  refine ur_push rfl ?_
  refine ur_divV rfl (by decide) (fun x13 e14 => ?_)
  have z15 := any_r x11
  have t16 := ti_div e14 l_20 (by decide) (by omega)
  refine ur_binV rfl (fun x17 e18 => ?_)
  have z19 := any_r x13
  have t20 := ti_add e18 (by omega) (by omega)
  refine ur_svIk [some (.inr (.inr (some 41))), some (.inr (.inr (some a1))), some (.inr (.inr (some a2))), some (.inl a3), some (.inl x11), some (.inl x17), none, none, none, none, none] rfl rfl ?_
  refine ur_ldI rfl rfl ?_
  refine ur_if1 rfl (fun c21 => ?_) (fun c21 => ?_)
  · have t22 := lt_to c21
    refine ur_ldI rfl rfl ?_
    refine ur_ldI rfl rfl ?_
    refine ur_divV rfl (nz_of (by omega)) (fun x23 e24 => ?_)
    have z25 := any_r x17
    have t26 := ti_divP e24 (by omega) (by omega)
    refine ur_ldI rfl rfl ?_
    refine ur_binV rfl (fun x27 e28 => ?_)
    have z29 := any_r x23
    have t30 := ti_mulB (b := 14400) (d := 721) e28 (by omega) (by omega) (by decide)
    refine ur_ldI rfl rfl ?_
    refine ur_binV rfl (fun x31 e32 => ?_)
    have z33 := any_r x27
    have t34 := ti_sub e32 (by omega) (by omega)
    refine ur_svIk [some (.inr (.inr (some 41))), some (.inr (.inr (some a1))), some (.inr (.inr (some a2))), some (.inl a3), some (.inl x11), some (.inl x17), some (.inl x31), none, none, none, none] rfl rfl ?_
    refine ur_ldI rfl rfl ?_
    refine ur_ldI rfl rfl ?_
    refine ur_binV rfl (fun x35 e36 => ?_)
    have z37 := any_r x31
    have t38 := ti_add e36 (by omega) (by omega)
    refine ur_svIk [some (.inr (.inr (some 41))), some (.inr (.inr (some a1))), some (.inr (.inr (some a2))), some (.inl a3), some (.inl x11), some (.inl x17), some (.inl x31), some (.inl x35), none, none, none] rfl rfl ?_
    refine ur_push rfl ?_
    refine ur_svIk [some (.inr (.inr (some 41))), some (.inr (.inr (some a1))), some (.inr (.inr (some a2))), some (.inl a3), some (.inl x11), some (.inl x17), some (.inl x31), some (.inl x35), some (.inl 0), none, none] rfl rfl ?_
    have L44 : ∀ (m45 : Nat) (x39 : Int32) (x40 : Int32) (x41 : Int32) (u42 : Option aV) (u43 : Option aV) (h47 : aH) , OK h47 → un [222, 223, 21212] h0 h47 → ((0 ≤ x41.toInt ∧ x41.toInt ≤ 2147483647)) → ((2147483648 - x41.toInt).toNat) < m45 → uRun oX7_leastMove (uCall Mt (d + 6)) Q 50 ([some (.inr (.inr (some 41))), some (.inr (.inr (some a1))), some (.inr (.inr (some a2))), some (.inl a3), some (.inl x11), some (.inl x17), some (.inl x39), some (.inl x40), some (.inl x41), u42, u43], [], h47, kc, ks) := by
      intro m45
      induction m45 with
      | zero => intro x39 x40 x41 u42 u43 h47 hO47 hu47 iv48 mm49; omega
      | succ m45 ih46 =>
        intro x39 x40 x41 u42 u43 h47 hO47 hu47 iv48 mm49
        refine ur_ldI rfl rfl ?_
        refine ur_push rfl ?_
        refine ur_ldI rfl rfl ?_
        refine ur_binV rfl (fun x50 e51 => ?_)
        have t52 := ti_mulR e51 l_2 (by omega) (by omega)
        refine ur_ldI rfl rfl ?_
        refine ur_divV rfl (nz_of (by omega)) (fun x53 e54 => ?_)
        have z55 := any_r x50
        have t56 := ti_divP e54 (by omega) (by omega)
        have z57 := any_r x41
        have z58 := any_r x53
        refine ur_if2 rfl (fun c59 => ?_) (fun c59 => ?_)
        · have t60 := lt_to c59
          refine ur_push rfl ?_
          exact ur_ret rfl rfl (hQ _ _ ⟨_, rfl⟩ hO47 hu47)
        · have t61 := lt_no c59
          refine ur_ldI rfl rfl ?_
          refine ur_ldI rfl rfl ?_
          have z62 := any_r x40
          refine ur_if2 rfl (fun c63 => ?_) (fun c63 => ?_)
          · have t64 := lt_to c63
            refine ur_push rfl ?_
            refine ur_go rfl ?_
            refine ur_svIk [some (.inr (.inr (some 41))), some (.inr (.inr (some a1))), some (.inr (.inr (some a2))), some (.inl a3), some (.inl x11), some (.inl x17), some (.inl x39), some (.inl x40), some (.inl x41), some (.inl 1), u43] rfl rfl ?_
            refine ur_ldI rfl rfl ?_
            refine ur_if1f rfl (by decide) ?_
            refine ur_ldI rfl rfl ?_
            refine ur_go rfl ?_
            refine ur_svIk [some (.inr (.inr (some 41))), some (.inr (.inr (some a1))), some (.inr (.inr (some a2))), some (.inl a3), some (.inl x11), some (.inl x17), some (.inl x39), some (.inl x40), some (.inl x41), some (.inl 1), some (.inl x39)] rfl rfl ?_
            refine ur_ldA rfl rfl ?_
            refine ur_ldI rfl rfl ?_
            obtain ⟨g85, f66, f67, f68, f69, f70, f71, f72, f73, f74, f75, q76, q77, o78, q79, hc65, k80, k81, k82, k83, k84⟩ := hO47.comet (hu47.tm t2 (by decide))
            refine ur_inl rfl (rcv_of hc65) (Nat.le_of_ble_eq_true rfl) (Nat.le_of_ble_eq_true rfl) (sf_X2_passOf hO47 g85 (hu47.tm t2 (by decide)) _ (fun w86 hr87 => ?_))
            obtain ⟨x88, rfl⟩ := hr87
            show uRun _ (uCall Mt _) _ 111 (_, [(.inl x88)], _, _, _)
            refine ur_ldI rfl rfl ?_
            refine ur_binV rfl (fun x89 e90 => ?_)
            have z91 := any_r x88
            have z92 := any_r x39
            refine ur_callv rfl rfl (Nat.le_of_ble_eq_true rfl) (Nat.le_of_ble_eq_true rfl) rfl (sp_isDay _ _) ?_
            refine ur_eqB rfl (fun c95 => ?_) (fun c95 => ?_)
            · have t96 := wi_noL c95 l_0 l_999999
              refine ur_ldI rfl rfl ?_
              refine ur_if1f rfl (by decide) ?_
              refine ur_ldI rfl rfl ?_
              refine ur_ldI rfl rfl ?_
              refine ur_binV rfl (fun x97 e98 => ?_)
              refine ur_svIk [some (.inr (.inr (some 41))), some (.inr (.inr (some a1))), some (.inr (.inr (some a2))), some (.inl a3), some (.inl x11), some (.inl x17), some (.inl x97), some (.inl x40), some (.inl x41), some (.inl 1), some (.inl x39)] rfl rfl ?_
              refine ur_go rfl ?_
              refine ur_incV (fun z => [some (.inr (.inr (some 41))), some (.inr (.inr (some a1))), some (.inr (.inr (some a2))), some (.inl a3), some (.inl x11), some (.inl x17), some (.inl x97), some (.inl x40), some (.inl z), some (.inl 1), some (.inl x39)]) rfl rfl (fun _ => rfl) (fun x99 e100 => ?_)
              have t101 := ti_add e100 (by omega) (by omega)
              refine ur_go rfl ?_
              have z102 := any_r x99
              exact ih46 x97 x40 x99 _ _ _ hO47 hu47 (by omega) (by omega)
            · have t103 := wi_toL c95 l_0 l_999999
              refine ur_ldA rfl rfl ?_
              obtain ⟨f105, f106, hc104, k107⟩ := ok_41 hO47
              refine ur_get rfl hc104 rfl ?_
              refine ur_ldA rfl rfl ?_
              refine ur_ldA rfl rfl ?_
              refine ur_ldI rfl rfl ?_
              refine ur_ldI rfl rfl ?_
              refine ur_push rfl ?_
              refine ur_push rfl ?_
              obtain ⟨f109, hc108, k110⟩ := ok_8 hO47
              refine ur_inl rfl (rcv_of hc108) (Nat.le_of_ble_eq_true rfl) (Nat.le_of_ble_eq_true rfl) (sf_X5_fitDay hO47 g1 (hu47.tm t1 (by decide)) g85 (hu47.tm t2 (by decide)) _ (by show -60 ≤ a3.toInt ∧ a3.toInt ≤ 60; omega) _ _ _ (fun w111 h113 hr112 hO113 hv113 => ?_))
              have hu113 := hv113
              obtain ⟨x114, rfl⟩ := hr112
              show uRun _ (uCall Mt _) _ 136 (_, [(.inl x114)], _, _, _)
              refine ur_push rfl ?_
              refine ur_if2 rfl (fun c115 => ?_) (fun c115 => ?_)
              · have t116 := eq_to c115
                refine ur_ldI rfl rfl ?_
                refine ur_if1f rfl (by decide) ?_
                refine ur_ldI rfl rfl ?_
                refine ur_ldI rfl rfl ?_
                refine ur_binV rfl (fun x117 e118 => ?_)
                refine ur_svIk [some (.inr (.inr (some 41))), some (.inr (.inr (some a1))), some (.inr (.inr (some a2))), some (.inl a3), some (.inl x11), some (.inl x17), some (.inl x117), some (.inl x40), some (.inl x41), some (.inl 1), some (.inl x39)] rfl rfl ?_
                refine ur_go rfl ?_
                refine ur_incV (fun z => [some (.inr (.inr (some 41))), some (.inr (.inr (some a1))), some (.inr (.inr (some a2))), some (.inl a3), some (.inl x11), some (.inl x17), some (.inl x117), some (.inl x40), some (.inl z), some (.inl 1), some (.inl x39)]) rfl rfl (fun _ => rfl) (fun x119 e120 => ?_)
                have t121 := ti_add e120 (by omega) (by omega)
                refine ur_go rfl ?_
                have z122 := any_r x119
                exact ih46 x117 x40 x119 _ _ _ hO113 (hu47.tr hu113) (by omega) (by omega)
              · have t123 := eq_no c115
                refine ur_ldI rfl rfl ?_
                exact ur_ret rfl rfl (hQ _ _ ⟨_, rfl⟩ hO113 (hu47.tr hu113))
          · have t124 := lt_no c63
            refine ur_ldI rfl rfl ?_
            refine ur_ldI rfl rfl ?_
            refine ur_unV rfl (fun x125 e126 => ?_)
            have t127 := ti_neg e126 (by omega)
            have z128 := any_r x39
            have z129 := any_r x125
            refine ur_if2 rfl (fun c130 => ?_) (fun c130 => ?_)
            · have t131 := lt_to c130
              refine ur_push rfl ?_
              refine ur_svIk [some (.inr (.inr (some 41))), some (.inr (.inr (some a1))), some (.inr (.inr (some a2))), some (.inl a3), some (.inl x11), some (.inl x17), some (.inl x39), some (.inl x40), some (.inl x41), some (.inl 0), u43] rfl rfl ?_
              refine ur_ldI rfl rfl ?_
              refine ur_if1t rfl (by decide) ?_
              refine ur_ldI rfl rfl ?_
              refine ur_svIk [some (.inr (.inr (some 41))), some (.inr (.inr (some a1))), some (.inr (.inr (some a2))), some (.inl a3), some (.inl x11), some (.inl x17), some (.inl x39), some (.inl x40), some (.inl x41), some (.inl 0), some (.inl x40)] rfl rfl ?_
              refine ur_ldA rfl rfl ?_
              refine ur_ldI rfl rfl ?_
              obtain ⟨g152, f133, f134, f135, f136, f137, f138, f139, f140, f141, f142, q143, q144, o145, q146, hc132, k147, k148, k149, k150, k151⟩ := hO47.comet (hu47.tm t2 (by decide))
              refine ur_inl rfl (rcv_of hc132) (Nat.le_of_ble_eq_true rfl) (Nat.le_of_ble_eq_true rfl) (sf_X2_passOf hO47 g152 (hu47.tm t2 (by decide)) _ (fun w153 hr154 => ?_))
              obtain ⟨x155, rfl⟩ := hr154
              show uRun _ (uCall Mt _) _ 111 (_, [(.inl x155)], _, _, _)
              refine ur_ldI rfl rfl ?_
              refine ur_binV rfl (fun x156 e157 => ?_)
              have z158 := any_r x155
              refine ur_callv rfl rfl (Nat.le_of_ble_eq_true rfl) (Nat.le_of_ble_eq_true rfl) rfl (sp_isDay _ _) ?_
              refine ur_eqB rfl (fun c161 => ?_) (fun c161 => ?_)
              · have t162 := wi_noL c161 l_0 l_999999
                refine ur_ldI rfl rfl ?_
                refine ur_if1t rfl (by decide) ?_
                refine ur_ldI rfl rfl ?_
                refine ur_ldI rfl rfl ?_
                refine ur_binV rfl (fun x163 e164 => ?_)
                have t165 := ti_add e164 (by omega) (by omega)
                refine ur_svIk [some (.inr (.inr (some 41))), some (.inr (.inr (some a1))), some (.inr (.inr (some a2))), some (.inl a3), some (.inl x11), some (.inl x17), some (.inl x39), some (.inl x163), some (.inl x41), some (.inl 0), some (.inl x40)] rfl rfl ?_
                refine ur_incV (fun z => [some (.inr (.inr (some 41))), some (.inr (.inr (some a1))), some (.inr (.inr (some a2))), some (.inl a3), some (.inl x11), some (.inl x17), some (.inl x39), some (.inl x163), some (.inl z), some (.inl 0), some (.inl x40)]) rfl rfl (fun _ => rfl) (fun x166 e167 => ?_)
                have t168 := ti_add e167 (by omega) (by omega)
                refine ur_go rfl ?_
                have z169 := any_r x166
                exact ih46 x39 x163 x166 _ _ _ hO47 hu47 (by omega) (by omega)
              · have t170 := wi_toL c161 l_0 l_999999
                refine ur_ldA rfl rfl ?_
                obtain ⟨f172, f173, hc171, k174⟩ := ok_41 hO47
                refine ur_get rfl hc171 rfl ?_
                refine ur_ldA rfl rfl ?_
                refine ur_ldA rfl rfl ?_
                refine ur_ldI rfl rfl ?_
                refine ur_ldI rfl rfl ?_
                refine ur_push rfl ?_
                refine ur_push rfl ?_
                obtain ⟨f176, hc175, k177⟩ := ok_8 hO47
                refine ur_inl rfl (rcv_of hc175) (Nat.le_of_ble_eq_true rfl) (Nat.le_of_ble_eq_true rfl) (sf_X5_fitDay hO47 g1 (hu47.tm t1 (by decide)) g152 (hu47.tm t2 (by decide)) _ (by show -60 ≤ a3.toInt ∧ a3.toInt ≤ 60; omega) _ _ _ (fun w178 h180 hr179 hO180 hv180 => ?_))
                have hu180 := hv180
                obtain ⟨x181, rfl⟩ := hr179
                show uRun _ (uCall Mt _) _ 136 (_, [(.inl x181)], _, _, _)
                refine ur_push rfl ?_
                refine ur_if2 rfl (fun c182 => ?_) (fun c182 => ?_)
                · have t183 := eq_to c182
                  refine ur_ldI rfl rfl ?_
                  refine ur_if1t rfl (by decide) ?_
                  refine ur_ldI rfl rfl ?_
                  refine ur_ldI rfl rfl ?_
                  refine ur_binV rfl (fun x184 e185 => ?_)
                  have t186 := ti_add e185 (by omega) (by omega)
                  refine ur_svIk [some (.inr (.inr (some 41))), some (.inr (.inr (some a1))), some (.inr (.inr (some a2))), some (.inl a3), some (.inl x11), some (.inl x17), some (.inl x39), some (.inl x184), some (.inl x41), some (.inl 0), some (.inl x40)] rfl rfl ?_
                  refine ur_incV (fun z => [some (.inr (.inr (some 41))), some (.inr (.inr (some a1))), some (.inr (.inr (some a2))), some (.inl a3), some (.inl x11), some (.inl x17), some (.inl x39), some (.inl x184), some (.inl z), some (.inl 0), some (.inl x40)]) rfl rfl (fun _ => rfl) (fun x187 e188 => ?_)
                  have t189 := ti_add e188 (by omega) (by omega)
                  refine ur_go rfl ?_
                  have z190 := any_r x187
                  exact ih46 x39 x184 x187 _ _ _ hO180 (hu47.tr hu180) (by omega) (by omega)
                · have t191 := eq_no c182
                  refine ur_ldI rfl rfl ?_
                  exact ur_ret rfl rfl (hQ _ _ ⟨_, rfl⟩ hO180 (hu47.tr hu180))
            · have t192 := lt_no c130
              refine ur_ldI rfl rfl ?_
              refine ur_unV rfl (fun x193 e194 => ?_)
              have t195 := ti_neg e194 (by omega)
              refine ur_ldI rfl rfl ?_
              have z196 := any_r x193
              refine ur_if2 rfl (fun c197 => ?_) (fun c197 => ?_)
              · have t198 := lt_to c197
                refine ur_push rfl ?_
                refine ur_svIk [some (.inr (.inr (some 41))), some (.inr (.inr (some a1))), some (.inr (.inr (some a2))), some (.inl a3), some (.inl x11), some (.inl x17), some (.inl x39), some (.inl x40), some (.inl x41), some (.inl 0), u43] rfl rfl ?_
                refine ur_ldI rfl rfl ?_
                refine ur_if1t rfl (by decide) ?_
                refine ur_ldI rfl rfl ?_
                refine ur_svIk [some (.inr (.inr (some 41))), some (.inr (.inr (some a1))), some (.inr (.inr (some a2))), some (.inl a3), some (.inl x11), some (.inl x17), some (.inl x39), some (.inl x40), some (.inl x41), some (.inl 0), some (.inl x40)] rfl rfl ?_
                refine ur_ldA rfl rfl ?_
                refine ur_ldI rfl rfl ?_
                obtain ⟨g219, f200, f201, f202, f203, f204, f205, f206, f207, f208, f209, q210, q211, o212, q213, hc199, k214, k215, k216, k217, k218⟩ := hO47.comet (hu47.tm t2 (by decide))
                refine ur_inl rfl (rcv_of hc199) (Nat.le_of_ble_eq_true rfl) (Nat.le_of_ble_eq_true rfl) (sf_X2_passOf hO47 g219 (hu47.tm t2 (by decide)) _ (fun w220 hr221 => ?_))
                obtain ⟨x222, rfl⟩ := hr221
                show uRun _ (uCall Mt _) _ 111 (_, [(.inl x222)], _, _, _)
                refine ur_ldI rfl rfl ?_
                refine ur_binV rfl (fun x223 e224 => ?_)
                have z225 := any_r x222
                refine ur_callv rfl rfl (Nat.le_of_ble_eq_true rfl) (Nat.le_of_ble_eq_true rfl) rfl (sp_isDay _ _) ?_
                refine ur_eqB rfl (fun c228 => ?_) (fun c228 => ?_)
                · have t229 := wi_noL c228 l_0 l_999999
                  refine ur_ldI rfl rfl ?_
                  refine ur_if1t rfl (by decide) ?_
                  refine ur_ldI rfl rfl ?_
                  refine ur_ldI rfl rfl ?_
                  refine ur_binV rfl (fun x230 e231 => ?_)
                  have t232 := ti_add e231 (by omega) (by omega)
                  refine ur_svIk [some (.inr (.inr (some 41))), some (.inr (.inr (some a1))), some (.inr (.inr (some a2))), some (.inl a3), some (.inl x11), some (.inl x17), some (.inl x39), some (.inl x230), some (.inl x41), some (.inl 0), some (.inl x40)] rfl rfl ?_
                  refine ur_incV (fun z => [some (.inr (.inr (some 41))), some (.inr (.inr (some a1))), some (.inr (.inr (some a2))), some (.inl a3), some (.inl x11), some (.inl x17), some (.inl x39), some (.inl x230), some (.inl z), some (.inl 0), some (.inl x40)]) rfl rfl (fun _ => rfl) (fun x233 e234 => ?_)
                  have t235 := ti_add e234 (by omega) (by omega)
                  refine ur_go rfl ?_
                  have z236 := any_r x233
                  exact ih46 x39 x230 x233 _ _ _ hO47 hu47 (by omega) (by omega)
                · have t237 := wi_toL c228 l_0 l_999999
                  refine ur_ldA rfl rfl ?_
                  obtain ⟨f239, f240, hc238, k241⟩ := ok_41 hO47
                  refine ur_get rfl hc238 rfl ?_
                  refine ur_ldA rfl rfl ?_
                  refine ur_ldA rfl rfl ?_
                  refine ur_ldI rfl rfl ?_
                  refine ur_ldI rfl rfl ?_
                  refine ur_push rfl ?_
                  refine ur_push rfl ?_
                  obtain ⟨f243, hc242, k244⟩ := ok_8 hO47
                  refine ur_inl rfl (rcv_of hc242) (Nat.le_of_ble_eq_true rfl) (Nat.le_of_ble_eq_true rfl) (sf_X5_fitDay hO47 g1 (hu47.tm t1 (by decide)) g219 (hu47.tm t2 (by decide)) _ (by show -60 ≤ a3.toInt ∧ a3.toInt ≤ 60; omega) _ _ _ (fun w245 h247 hr246 hO247 hv247 => ?_))
                  have hu247 := hv247
                  obtain ⟨x248, rfl⟩ := hr246
                  show uRun _ (uCall Mt _) _ 136 (_, [(.inl x248)], _, _, _)
                  refine ur_push rfl ?_
                  refine ur_if2 rfl (fun c249 => ?_) (fun c249 => ?_)
                  · have t250 := eq_to c249
                    refine ur_ldI rfl rfl ?_
                    refine ur_if1t rfl (by decide) ?_
                    refine ur_ldI rfl rfl ?_
                    refine ur_ldI rfl rfl ?_
                    refine ur_binV rfl (fun x251 e252 => ?_)
                    have t253 := ti_add e252 (by omega) (by omega)
                    refine ur_svIk [some (.inr (.inr (some 41))), some (.inr (.inr (some a1))), some (.inr (.inr (some a2))), some (.inl a3), some (.inl x11), some (.inl x17), some (.inl x39), some (.inl x251), some (.inl x41), some (.inl 0), some (.inl x40)] rfl rfl ?_
                    refine ur_incV (fun z => [some (.inr (.inr (some 41))), some (.inr (.inr (some a1))), some (.inr (.inr (some a2))), some (.inl a3), some (.inl x11), some (.inl x17), some (.inl x39), some (.inl x251), some (.inl z), some (.inl 0), some (.inl x40)]) rfl rfl (fun _ => rfl) (fun x254 e255 => ?_)
                    have t256 := ti_add e255 (by omega) (by omega)
                    refine ur_go rfl ?_
                    have z257 := any_r x254
                    exact ih46 x39 x251 x254 _ _ _ hO247 (hu47.tr hu247) (by omega) (by omega)
                  · have t258 := eq_no c249
                    refine ur_ldI rfl rfl ?_
                    exact ur_ret rfl rfl (hQ _ _ ⟨_, rfl⟩ hO247 (hu47.tr hu247))
              · have t259 := lt_no c197
                refine ur_push rfl ?_
                refine ur_go rfl ?_
                refine ur_svIk [some (.inr (.inr (some 41))), some (.inr (.inr (some a1))), some (.inr (.inr (some a2))), some (.inl a3), some (.inl x11), some (.inl x17), some (.inl x39), some (.inl x40), some (.inl x41), some (.inl 1), u43] rfl rfl ?_
                refine ur_ldI rfl rfl ?_
                refine ur_if1f rfl (by decide) ?_
                refine ur_ldI rfl rfl ?_
                refine ur_go rfl ?_
                refine ur_svIk [some (.inr (.inr (some 41))), some (.inr (.inr (some a1))), some (.inr (.inr (some a2))), some (.inl a3), some (.inl x11), some (.inl x17), some (.inl x39), some (.inl x40), some (.inl x41), some (.inl 1), some (.inl x39)] rfl rfl ?_
                refine ur_ldA rfl rfl ?_
                refine ur_ldI rfl rfl ?_
                obtain ⟨g280, f261, f262, f263, f264, f265, f266, f267, f268, f269, f270, q271, q272, o273, q274, hc260, k275, k276, k277, k278, k279⟩ := hO47.comet (hu47.tm t2 (by decide))
                refine ur_inl rfl (rcv_of hc260) (Nat.le_of_ble_eq_true rfl) (Nat.le_of_ble_eq_true rfl) (sf_X2_passOf hO47 g280 (hu47.tm t2 (by decide)) _ (fun w281 hr282 => ?_))
                obtain ⟨x283, rfl⟩ := hr282
                show uRun _ (uCall Mt _) _ 111 (_, [(.inl x283)], _, _, _)
                refine ur_ldI rfl rfl ?_
                refine ur_binV rfl (fun x284 e285 => ?_)
                have z286 := any_r x283
                refine ur_callv rfl rfl (Nat.le_of_ble_eq_true rfl) (Nat.le_of_ble_eq_true rfl) rfl (sp_isDay _ _) ?_
                refine ur_eqB rfl (fun c289 => ?_) (fun c289 => ?_)
                · have t290 := wi_noL c289 l_0 l_999999
                  refine ur_ldI rfl rfl ?_
                  refine ur_if1f rfl (by decide) ?_
                  refine ur_ldI rfl rfl ?_
                  refine ur_ldI rfl rfl ?_
                  refine ur_binV rfl (fun x291 e292 => ?_)
                  have t293 := ti_sub e292 (by omega) (by omega)
                  refine ur_svIk [some (.inr (.inr (some 41))), some (.inr (.inr (some a1))), some (.inr (.inr (some a2))), some (.inl a3), some (.inl x11), some (.inl x17), some (.inl x291), some (.inl x40), some (.inl x41), some (.inl 1), some (.inl x39)] rfl rfl ?_
                  refine ur_go rfl ?_
                  refine ur_incV (fun z => [some (.inr (.inr (some 41))), some (.inr (.inr (some a1))), some (.inr (.inr (some a2))), some (.inl a3), some (.inl x11), some (.inl x17), some (.inl x291), some (.inl x40), some (.inl z), some (.inl 1), some (.inl x39)]) rfl rfl (fun _ => rfl) (fun x294 e295 => ?_)
                  have t296 := ti_add e295 (by omega) (by omega)
                  refine ur_go rfl ?_
                  have z297 := any_r x294
                  exact ih46 x291 x40 x294 _ _ _ hO47 hu47 (by omega) (by omega)
                · have t298 := wi_toL c289 l_0 l_999999
                  refine ur_ldA rfl rfl ?_
                  obtain ⟨f300, f301, hc299, k302⟩ := ok_41 hO47
                  refine ur_get rfl hc299 rfl ?_
                  refine ur_ldA rfl rfl ?_
                  refine ur_ldA rfl rfl ?_
                  refine ur_ldI rfl rfl ?_
                  refine ur_ldI rfl rfl ?_
                  refine ur_push rfl ?_
                  refine ur_push rfl ?_
                  obtain ⟨f304, hc303, k305⟩ := ok_8 hO47
                  refine ur_inl rfl (rcv_of hc303) (Nat.le_of_ble_eq_true rfl) (Nat.le_of_ble_eq_true rfl) (sf_X5_fitDay hO47 g1 (hu47.tm t1 (by decide)) g280 (hu47.tm t2 (by decide)) _ (by show -60 ≤ a3.toInt ∧ a3.toInt ≤ 60; omega) _ _ _ (fun w306 h308 hr307 hO308 hv308 => ?_))
                  have hu308 := hv308
                  obtain ⟨x309, rfl⟩ := hr307
                  show uRun _ (uCall Mt _) _ 136 (_, [(.inl x309)], _, _, _)
                  refine ur_push rfl ?_
                  refine ur_if2 rfl (fun c310 => ?_) (fun c310 => ?_)
                  · have t311 := eq_to c310
                    refine ur_ldI rfl rfl ?_
                    refine ur_if1f rfl (by decide) ?_
                    refine ur_ldI rfl rfl ?_
                    refine ur_ldI rfl rfl ?_
                    refine ur_binV rfl (fun x312 e313 => ?_)
                    have t314 := ti_sub e313 (by omega) (by omega)
                    refine ur_svIk [some (.inr (.inr (some 41))), some (.inr (.inr (some a1))), some (.inr (.inr (some a2))), some (.inl a3), some (.inl x11), some (.inl x17), some (.inl x312), some (.inl x40), some (.inl x41), some (.inl 1), some (.inl x39)] rfl rfl ?_
                    refine ur_go rfl ?_
                    refine ur_incV (fun z => [some (.inr (.inr (some 41))), some (.inr (.inr (some a1))), some (.inr (.inr (some a2))), some (.inl a3), some (.inl x11), some (.inl x17), some (.inl x312), some (.inl x40), some (.inl z), some (.inl 1), some (.inl x39)]) rfl rfl (fun _ => rfl) (fun x315 e316 => ?_)
                    have t317 := ti_add e316 (by omega) (by omega)
                    refine ur_go rfl ?_
                    have z318 := any_r x315
                    exact ih46 x312 x40 x315 _ _ _ hO308 (hu47.tr hu308) (by omega) (by omega)
                  · have t319 := eq_no c310
                    refine ur_ldI rfl rfl ?_
                    exact ur_ret rfl rfl (hQ _ _ ⟨_, rfl⟩ hO308 (hu47.tr hu308))
    exact L44 _ x31 x35 0 (none) (none) _ hO0 un.rf (by omega) (Nat.lt_succ_self _)
  · have t320 := lt_no c21
    exfalso
    omega

set_option maxRecDepth 20000 in
set_option maxHeartbeats 4000000 in
theorem sf_X7_isSurelyWatched {d kc ks : Nat} {h0 : aH} {Q : Option aV → aH → Prop} (hO0 : OK h0) {a1 : Nat} (g1 : 114 ≤ a1) (t1 : tg h0 a1 = (102, 14)) (a2 : Int32) (b2 : -60 ≤ a2.toInt ∧ a2.toInt ≤ 60) (hQ : ∀ r h', (∃ q, r = some (.inl (bi q))) → OK h' → un [222, 223, 21212] h0 h' → Q r h') : uCall Mt (d + 5) 77 [(.inr (.inr (some 41))), (.inr (.inr (some a1))), (.inl a2)] h0 kc ks Q := by
  have l_0 : ((0) : Int32).toInt = 0 := by decide
  have l_1 : ((1) : Int32).toInt = 1 := by decide
  have l_5 : ((5) : Int32).toInt = 5 := by decide
  have l_120 : ((120) : Int32).toInt = 120 := by decide
  refine uc_ink [some (.inr (.inr (some 41))), some (.inr (.inr (some a1))), some (.inl a2), none, none, none, none, none] mt_77 (Nat.le_of_ble_eq_true rfl) rfl ?_
  refine ur_ldA rfl rfl ?_
  refine ur_ldI rfl rfl ?_
  obtain ⟨g21, f2, f3, f4, f5, f6, f7, f8, f9, f10, f11, q12, q13, o14, q15, hc1, k16, k17, k18, k19, k20⟩ := hO0.comet t1
  refine ur_inl rfl (rcv_of hc1) (Nat.le_of_ble_eq_true rfl) (Nat.le_of_ble_eq_true rfl) (sf_X2_passOf hO0 g21 t1 _ (fun w22 hr23 => ?_))
  obtain ⟨x24, rfl⟩ := hr23
  show uRun _ (uCall Mt _) _ 5 (_, [(.inl x24)], _, _, _)
  refine ur_svIk [some (.inr (.inr (some 41))), some (.inr (.inr (some a1))), some (.inl a2), some (.inl x24), none, none, none, none] rfl rfl ?_
  refine ur_push rfl ?_
  refine ur_svIk [some (.inr (.inr (some 41))), some (.inr (.inr (some a1))), some (.inl a2), some (.inl x24), some (.inl 0), none, none, none] rfl rfl ?_
  have L29 : ∀ (m30 : Nat) (x25 : Int32) (u26 : Option aV) (u27 : Option aV) (u28 : Option aV) (h32 : aH) , OK h32 → un [222, 223, 21212] h0 h32 → ((0 ≤ x25.toInt ∧ x25.toInt ≤ 2147483647)) → ((2147483648 - x25.toInt).toNat) < m30 → uRun oX7_isSurelyWatched (uCall Mt (d + 4)) Q 9 ([some (.inr (.inr (some 41))), some (.inr (.inr (some a1))), some (.inl a2), some (.inl x24), some (.inl x25), u26, u27, u28], [], h32, kc, ks) := by
    intro m30
    induction m30 with
    | zero => intro x25 u26 u27 u28 h32 hO32 hu32 iv33 mm34; omega
    | succ m30 ih31 =>
      intro x25 u26 u27 u28 h32 hO32 hu32 iv33 mm34
      refine ur_ldI rfl rfl ?_
      refine ur_ldA rfl rfl ?_
      obtain ⟨f36, f37, hc35, k38⟩ := ok_41 hO32
      refine ur_get rfl hc35 rfl ?_
      have z39 := any_r x25
      have z40 := any_r f36
      refine ur_if2 rfl (fun c41 => ?_) (fun c41 => ?_)
      · have t42 := le_to c41
        refine ur_push rfl ?_
        exact ur_ret rfl rfl (hQ _ _ ⟨false, rfl⟩ hO32 hu32)
      · have t43 := le_no c41
        refine ur_ldA rfl rfl ?_
        refine ur_get rfl hc35 rfl ?_
        refine ur_ldI rfl rfl ?_
        obtain ⟨xs45, hc44, hn46, he47⟩ := hO32.int (hO32.fix 44 (by decide) rfl)
        refine ur_aldV rfl hc44 hn46 (by omega) (fun x48 hx49 => ?_)
        have t50 : 0 ≤ x48.toInt ∧ x48.toInt ≤ 999999 := he47 _ _ hx49
        refine ur_ldI rfl rfl ?_
        refine ur_push rfl ?_
        refine ur_binV rfl (fun x51 e52 => ?_)
        have z53 := any_r x24
        refine ur_minV rfl (by show ¬ 9 ≤ 2; decide) (fun x54 t55 e56 => ?_)
        refine ur_svIk [some (.inr (.inr (some 41))), some (.inr (.inr (some a1))), some (.inl a2), some (.inl x24), some (.inl x25), some (.inl x54), u27, u28] rfl rfl ?_
        refine ur_push rfl ?_
        refine ur_svIk [some (.inr (.inr (some 41))), some (.inr (.inr (some a1))), some (.inl a2), some (.inl x24), some (.inl x25), some (.inl x54), some (.inl 0), u28] rfl rfl ?_
        refine ur_ldA rfl rfl ?_
        refine ur_get rfl hc35 rfl ?_
        refine ur_ldI rfl rfl ?_
        obtain ⟨xs58, hc57, hn59, he60⟩ := hO32.int (hO32.fix 43 (by decide) rfl)
        refine ur_aldV rfl hc57 hn59 (by omega) (fun x61 hx62 => ?_)
        have t63 : 0 ≤ x61.toInt ∧ x61.toInt ≤ 999999 := he60 _ _ hx62
        refine ur_ldI rfl rfl ?_
        refine ur_push rfl ?_
        refine ur_binV rfl (fun x64 e65 => ?_)
        refine ur_maxV rfl (by show ¬ 9 ≤ 2; decide) (fun x66 t67 e68 => ?_)
        refine ur_svIk [some (.inr (.inr (some 41))), some (.inr (.inr (some a1))), some (.inl a2), some (.inl x24), some (.inl x25), some (.inl x54), some (.inl 0), some (.inl x66)] rfl rfl ?_
        have L71 : ∀ (m72 : Nat) (x69 : Int32) (x70 : Int32) (h74 : aH) , OK h74 → un [222, 223, 21212] h32 h74 → ((0 ≤ x70.toInt ∧ x70.toInt ≤ 2147483647)) → ((2147483648 - x70.toInt).toNat) < m72 → uRun oX7_isSurelyWatched (uCall Mt (d + 4)) Q 53 ([some (.inr (.inr (some 41))), some (.inr (.inr (some a1))), some (.inl a2), some (.inl x24), some (.inl x25), some (.inl x54), some (.inl x69), some (.inl x70)], [], h74, kc, ks) := by
          intro m72
          induction m72 with
          | zero => intro x69 x70 h74 hO74 hu74 iv75 mm76; omega
          | succ m72 ih73 =>
            intro x69 x70 h74 hO74 hu74 iv75 mm76
            refine ur_ldI rfl rfl ?_
            refine ur_ldI rfl rfl ?_
            have z77 := any_r x70
            have z78 := any_r x54
            refine ur_if2 rfl (fun c79 => ?_) (fun c79 => ?_)
            · have t80 := lt_to c79
              refine ur_incV (fun z => [some (.inr (.inr (some 41))), some (.inr (.inr (some a1))), some (.inl a2), some (.inl x24), some (.inl z), some (.inl x54), some (.inl x69), some (.inl x70)]) rfl rfl (fun _ => rfl) (fun x81 e82 => ?_)
              have t83 := ti_add e82 (by omega) (by omega)
              refine ur_go rfl ?_
              have z84 := any_r x81
              exact ih31 x81 _ _ _ _ hO74 (hu32.tr hu74) (by omega) (by omega)
            · have t85 := lt_no c79
              refine ur_ldA rfl rfl ?_
              obtain ⟨f87, f88, hc86, k89⟩ := ok_41 hO74
              refine ur_get rfl hc86 rfl ?_
              refine ur_ldA rfl rfl ?_
              refine ur_ldA rfl rfl ?_
              refine ur_get rfl hc86 rfl ?_
              refine ur_ldI rfl rfl ?_
              obtain ⟨xs91, hc90, hn92, he93⟩ := hO74.int (hO74.fix 42 (by decide) rfl)
              refine ur_aldV rfl hc90 hn92 (by omega) (fun x94 hx95 => ?_)
              have t96 : 0 ≤ x94.toInt ∧ x94.toInt ≤ 8 := he93 _ _ hx95
              refine ur_ldI rfl rfl ?_
              refine ur_push rfl ?_
              refine ur_ldI rfl rfl ?_
              obtain ⟨f98, hc97, k99⟩ := ok_8 hO74
              refine ur_inl rfl (rcv_of hc97) (Nat.le_of_ble_eq_true rfl) (Nat.le_of_ble_eq_true rfl) (sf_X5_seenOn hO74 g21 (hu74.tm (hu32.tm t1 (by decide)) (by decide)) _ (by show 0 ≤ x94.toInt ∧ x94.toInt ≤ 8; omega) _ (by show -60 ≤ a2.toInt ∧ a2.toInt ≤ 60; omega) _ _ (fun w100 h102 hr101 hO102 hv102 => ?_))
              have hu102 := hv102
              obtain ⟨b103, rfl⟩ := hr101
              show uRun _ (uCall Mt _) _ 79 (_, [(.inl (bi b103))], _, _, _)
              refine ur_eqB rfl (fun c104 => ?_) (fun c104 => ?_)
              · refine ur_ldI rfl rfl ?_
                refine ur_push rfl ?_
                refine ur_if2 rfl (fun c105 => ?_) (fun c105 => ?_)
                · have t106 := lt_to c105
                  refine ur_incV (fun z => [some (.inr (.inr (some 41))), some (.inr (.inr (some a1))), some (.inl a2), some (.inl x24), some (.inl x25), some (.inl x54), some (.inl x69), some (.inl z)]) rfl rfl (fun _ => rfl) (fun x107 e108 => ?_)
                  have t109 := ti_add e108 (by omega) (by omega)
                  refine ur_go rfl ?_
                  have z110 := any_r x107
                  exact ih73 x69 x107 _ hO102 (hu74.tr hu102) (by omega) (by omega)
                · have t111 := lt_no c105
                  refine ur_push rfl ?_
                  exact ur_ret rfl rfl (hQ _ _ ⟨true, rfl⟩ hO102 (hu32.tr (hu74.tr hu102)))
              · refine ur_incV (fun z => [some (.inr (.inr (some 41))), some (.inr (.inr (some a1))), some (.inl a2), some (.inl x24), some (.inl x25), some (.inl x54), some (.inl z), some (.inl x70)]) rfl rfl (fun _ => rfl) (fun x112 e113 => ?_)
                have z114 := any_r x69
                refine ur_ldI rfl rfl ?_
                refine ur_push rfl ?_
                refine ur_if2 rfl (fun c115 => ?_) (fun c115 => ?_)
                · have t116 := lt_to c115
                  refine ur_incV (fun z => [some (.inr (.inr (some 41))), some (.inr (.inr (some a1))), some (.inl a2), some (.inl x24), some (.inl x25), some (.inl x54), some (.inl x112), some (.inl z)]) rfl rfl (fun _ => rfl) (fun x117 e118 => ?_)
                  have t119 := ti_add e118 (by omega) (by omega)
                  refine ur_go rfl ?_
                  have z120 := any_r x117
                  exact ih73 x112 x117 _ hO102 (hu74.tr hu102) (by omega) (by omega)
                · have t121 := lt_no c115
                  refine ur_push rfl ?_
                  exact ur_ret rfl rfl (hQ _ _ ⟨true, rfl⟩ hO102 (hu32.tr (hu74.tr hu102)))
        have z122 := any_r x66
        exact L71 _ 0 x66 _ hO32 un.rf (by omega) (Nat.lt_succ_self _)
  exact L29 _ 0 (none) (none) (none) _ hO0 un.rf (by omega) (Nat.lt_succ_self _)

set_option maxRecDepth 20000 in
set_option maxHeartbeats 4000000 in
theorem sf_X7_weighComet {d kc ks : Nat} {h0 : aH} {Q : Option aV → aH → Prop} (hO0 : OK h0) (a1 : Int32) (hQ : ∀ r h', (r = none) → OK h' → un [45, 46, 222, 223, 21212] h0 h' → Q r h') : uCall Mt (d + 7) 75 [(.inr (.inr (some 41))), (.inl a1)] h0 kc ks Q := by
  have l_m120 : ((-120) : Int32).toInt = -120 := by decide
  have l_m1 : ((-1) : Int32).toInt = -1 := by decide
  have l_0 : ((0) : Int32).toInt = 0 := by decide
  have l_1 : ((1) : Int32).toInt = 1 := by decide
  have l_3 : ((3) : Int32).toInt = 3 := by decide
  have l_6 : ((6) : Int32).toInt = 6 := by decide
  have l_11 : ((11) : Int32).toInt = 11 := by decide
  have l_63 : ((63) : Int32).toInt = 63 := by decide
  have l_120 : ((120) : Int32).toInt = 120 := by decide
  refine uc_ink [some (.inr (.inr (some 41))), some (.inl a1), none, none, none, none, none] mt_75 (Nat.le_of_ble_eq_true rfl) rfl ?_
  refine ur_ldA rfl rfl ?_
  obtain ⟨f2, f3, hc1, k4⟩ := ok_41 hO0
  refine ur_get rfl hc1 rfl ?_
  refine ur_ldI rfl rfl ?_
  obtain ⟨f6, f7, hc5, k8⟩ := ok_1 hO0
  refine ur_inl rfl (rcv_of hc5) (Nat.le_of_ble_eq_true rfl) (Nat.le_of_ble_eq_true rfl) (sf_X6_cometAt hO0 _ (fun w9 hr10 => ?_))
  obtain ⟨o11, rfl, k12⟩ := hr10
  show uRun _ (uCall Mt _) _ 8 (_, [(.inr (.inr o11))], _, _, _)
  refine ur_svAk [some (.inr (.inr (some 41))), some (.inl a1), some (.inr (.inr o11)), none, none, none, none] rfl rfl ?_
  refine ur_ldA rfl rfl ?_
  cases o11 with
  | none =>
    refine ur_nulN rfl ?_
    exact ur_ret0 rfl (hQ _ _ rfl hO0 un.rf)
  | some r13 =>
    refine ur_nulS rfl ?_
    have k14 := k12 _ rfl
    refine ur_ldI rfl rfl ?_
    refine ur_push rfl ?_
    refine ur_push rfl ?_
    refine ur_callv rfl rfl (Nat.le_of_ble_eq_true rfl) (Nat.le_of_ble_eq_true rfl) rfl (sp_within _ _ _ _ _) ?_
    refine ur_eqB rfl (fun c17 => ?_) (fun c17 => ?_)
    · have t18 := wi_noL c17 l_0 l_11
      exact ur_ret0 rfl (hQ _ _ rfl hO0 un.rf)
    · have t19 := wi_toL c17 l_0 l_11
      refine ur_ldA rfl rfl ?_
      refine ur_get rfl hc1 rfl ?_
      refine ur_ldI rfl rfl ?_
      obtain ⟨xs21, hc20, hn22, he23⟩ := hO0.int (hO0.fix 46 (by decide) rfl)
      refine ur_aldV rfl hc20 hn22 (by omega) (fun x24 hx25 => ?_)
      refine ur_push rfl ?_
      refine ur_if2 rfl (fun c26 => ?_) (fun c26 => ?_)
      · have t27 := eq_to c26
        refine ur_ldA rfl rfl ?_
        refine ur_get rfl hc1 rfl ?_
        refine ur_ldI rfl rfl ?_
        refine ur_push rfl ?_
        refine ur_astV (W := [45, 46, 222, 223, 21212]) (m := 12) rfl hO0 hc20 (by decide) hn22 (by omega) (any_r _) (Or.inr (Or.inr (wid_fix (by decide) (by decide)))) (fun h30 hO30 hu30 d28 hc29 => ?_)
        refine ur_ldA rfl rfl ?_
        obtain ⟨g51, f32, f33, f34, f35, f36, f37, f38, f39, f40, f41, q42, q43, o44, q45, hc31, k46, k47, k48, k49, k50⟩ := hO30.comet (hu30.tm k14.2 (by decide))
        refine ur_get rfl hc31 rfl ?_
        refine ur_svIk [some (.inr (.inr (some 41))), some (.inl a1), some (.inr (.inr (some r13))), some (.inl f40), none, none, none] rfl rfl ?_
        have L56 : ∀ (m57 : Nat) (x52 : Int32) (u53 : Option aV) (u54 : Option aV) (u55 : Option aV) (h59 : aH) , OK h59 → un [45, 46, 222, 223, 21212] h30 h59 → ((-60 ≤ x52.toInt ∧ x52.toInt ≤ 2147483647)) → ((2147483648 - x52.toInt).toNat) < m57 → uRun oX7_weighComet (uCall Mt (d + 6)) Q 46 ([some (.inr (.inr (some 41))), some (.inl a1), some (.inr (.inr (some r13))), some (.inl x52), u53, u54, u55], [], h59, kc, ks) := by
          intro m57
          induction m57 with
          | zero => intro x52 u53 u54 u55 h59 hO59 hu59 iv60 mm61; omega
          | succ m57 ih58 =>
            intro x52 u53 u54 u55 h59 hO59 hu59 iv60 mm61
            refine ur_ldI rfl rfl ?_
            refine ur_ldA rfl rfl ?_
            obtain ⟨g82, f63, f64, f65, f66, f67, f68, f69, f70, f71, f72, q73, q74, o75, q76, hc62, k77, k78, k79, k80, k81⟩ := hO59.comet (hu59.tm (hu30.tm k14.2 (by decide)) (by decide))
            refine ur_get rfl hc62 rfl ?_
            have z83 := any_r x52
            have z84 := any_r f72
            refine ur_if2 rfl (fun c85 => ?_) (fun c85 => ?_)
            · have t86 := lt_to c85
              exact ur_ret0 rfl (hQ _ _ rfl hO59 (hu30.tr hu59))
            · have t87 := lt_no c85
              refine ur_ldA rfl rfl ?_
              refine ur_ldA rfl rfl ?_
              refine ur_ldI rfl rfl ?_
              obtain ⟨f89, f90, hc88, k91⟩ := ok_41 hO59
              refine ur_inl rfl (rcv_of hc88) (Nat.le_of_ble_eq_true rfl) (Nat.le_of_ble_eq_true rfl) (sf_X7_isSurelyWatched hO59 g82 (hu59.tm (hu30.tm k14.2 (by decide)) (by decide)) _ (by show -60 ≤ x52.toInt ∧ x52.toInt ≤ 60; omega) (fun w92 h94 hr93 hO94 hv94 => ?_))
              have hu94 : un [45, 46, 222, 223, 21212] h59 h94 := hv94.mono (by decide)
              obtain ⟨b95, rfl⟩ := hr93
              show uRun _ (uCall Mt _) _ 60 (_, [(.inl (bi b95))], _, _, _)
              refine ur_svIk [some (.inr (.inr (some 41))), some (.inl a1), some (.inr (.inr (some r13))), some (.inl x52), some (.inl (bi b95)), u54, u55] rfl rfl ?_
              refine ur_push rfl ?_
              refine ur_svIk [some (.inr (.inr (some 41))), some (.inl a1), some (.inr (.inr (some r13))), some (.inl x52), some (.inl (bi b95)), some (.inl 0), u55] rfl rfl ?_
              have L99 : ∀ (m100 : Nat) (x96 : Int32) (x97 : Int32) (u98 : Option aV) (h102 : aH) , OK h102 → un [45, 46, 222, 223, 21212] h94 h102 → ((0 ≤ x97.toInt ∧ x97.toInt ≤ 2147483647)) → ((2147483648 - x97.toInt).toNat) < m100 → uRun oX7_weighComet (uCall Mt (d + 6)) Q 65 ([some (.inr (.inr (some 41))), some (.inl a1), some (.inr (.inr (some r13))), some (.inl x52), some (.inl x96), some (.inl x97), u98], [], h102, kc, ks) := by
                intro m100
                induction m100 with
                | zero => intro x96 x97 u98 h102 hO102 hu102 iv103 mm104; omega
                | succ m100 ih101 =>
                  intro x96 x97 u98 h102 hO102 hu102 iv103 mm104
                  refine ur_ldI rfl rfl ?_
                  refine ur_ldA rfl rfl ?_
                  obtain ⟨f106, f107, hc105, k108⟩ := ok_41 hO102
                  refine ur_get rfl hc105 rfl ?_
                  obtain ⟨f110, f111, f112, f113, hc109, k114⟩ := ok_15 hO102
                  refine ur_get rfl hc109 rfl ?_
                  have z115 := any_r x97
                  have z116 := any_r f110
                  refine ur_if2 rfl (fun c117 => ?_) (fun c117 => ?_)
                  · have t118 := le_to c117
                    refine ur_ldI rfl rfl ?_
                    refine ur_if1 rfl (fun c119 => ?_) (fun c119 => ?_)
                    · have t120 := eq_to c119
                      refine ur_incV (fun z => [some (.inr (.inr (some 41))), some (.inl a1), some (.inr (.inr (some r13))), some (.inl z), some (.inl x96), some (.inl x97), u98]) rfl rfl (fun _ => rfl) (fun x121 e122 => ?_)
                      have t123 := ti_add e122 (by omega) (by omega)
                      refine ur_go rfl ?_
                      have z124 := any_r x121
                      exact ih58 x121 _ _ _ _ hO102 (hu59.tr (hu94.tr hu102)) (by omega) (by omega)
                    · have t125 := eq_no c119
                      refine ur_ldA rfl rfl ?_
                      refine ur_get rfl hc105 rfl ?_
                      refine ur_ldI rfl rfl ?_
                      refine ur_dup2 rfl rfl rfl ?_
                      obtain ⟨xs127, hc126, hn128, he129⟩ := hO102.int (hO102.fix 46 (by decide) rfl)
                      refine ur_aldV rfl hc126 hn128 (by omega) (fun x130 hx131 => ?_)
                      refine ur_push rfl ?_
                      refine ur_binV rfl (fun x132 e133 => ?_)
                      have z134 := any_r x130
                      refine ur_astV (W := [45, 46, 222, 223, 21212]) (m := 12) rfl hO102 hc126 (by decide) hn128 (by omega) (any_r _) (Or.inr (Or.inr (wid_fix (by decide) (by decide)))) (fun h137 hO137 hu137 d135 hc136 => ?_)
                      refine ur_incV (fun z => [some (.inr (.inr (some 41))), some (.inl a1), some (.inr (.inr (some r13))), some (.inl z), some (.inl x96), some (.inl x97), u98]) rfl rfl (fun _ => rfl) (fun x138 e139 => ?_)
                      have t140 := ti_add e139 (by omega) (by omega)
                      refine ur_go rfl ?_
                      have z141 := any_r x138
                      exact ih58 x138 _ _ _ _ hO137 (hu59.tr (hu94.tr (hu102.tr hu137))) (by omega) (by omega)
                  · have t142 := le_no c117
                    refine ur_ldA rfl rfl ?_
                    refine ur_get rfl hc105 rfl ?_
                    refine ur_ldI rfl rfl ?_
                    refine ur_inl rfl (rcv_of hc109) (Nat.le_of_ble_eq_true rfl) (Nat.le_of_ble_eq_true rfl) (sf_X1_wordAt hO102 _ (fun w143 hr144 => ?_))
                    obtain ⟨o145, rfl, k146⟩ := hr144
                    show uRun _ (uCall Mt _) _ 86 (_, [(.inr (.inr o145))], _, _, _)
                    refine ur_svAk [some (.inr (.inr (some 41))), some (.inl a1), some (.inr (.inr (some r13))), some (.inl x52), some (.inl x96), some (.inl x97), some (.inr (.inr o145))] rfl rfl ?_
                    refine ur_ldA rfl rfl ?_
                    cases o145 with
                    | none =>
                      refine ur_nulN rfl ?_
                      refine ur_incV (fun z => [some (.inr (.inr (some 41))), some (.inl a1), some (.inr (.inr (some r13))), some (.inl x52), some (.inl x96), some (.inl z), some (.inr (.inr none))]) rfl rfl (fun _ => rfl) (fun x148 e149 => ?_)
                      have t150 := ti_add e149 (by omega) (by omega)
                      refine ur_go rfl ?_
                      have z151 := any_r x148
                      exact ih101 x96 x148 _ _ hO102 hu102 (by omega) (by omega)
                    | some r147 =>
                      refine ur_nulS rfl ?_
                      have k152 := k146 _ rfl
                      refine ur_ldI rfl rfl ?_
                      refine ur_if1 rfl (fun c153 => ?_) (fun c153 => ?_)
                      · have t154 := ne_to c153
                        refine ur_ldA rfl rfl ?_
                        refine ur_get rfl hc105 rfl ?_
                        refine ur_ldA rfl rfl ?_
                        refine ur_ldA rfl rfl ?_
                        refine ur_ldI rfl rfl ?_
                        refine ur_push rfl ?_
                        refine ur_push rfl ?_
                        refine ur_push rfl ?_
                        obtain ⟨f156, hc155, k157⟩ := ok_8 hO102
                        refine ur_inl rfl (rcv_of hc155) (Nat.le_of_ble_eq_true rfl) (Nat.le_of_ble_eq_true rfl) (sf_X5_fitDay hO102 k152.1 k152.2 g82 (hu102.tm (hu94.tm (hu59.tm (hu30.tm k14.2 (by decide)) (by decide)) (by decide)) (by decide)) _ (by show -60 ≤ x52.toInt ∧ x52.toInt ≤ 60; omega) _ _ _ (fun w158 h160 hr159 hO160 hv160 => ?_))
                        have hu160 : un [45, 46, 222, 223, 21212] h102 h160 := hv160.mono (by decide)
                        obtain ⟨x161, rfl⟩ := hr159
                        show uRun _ (uCall Mt _) _ 127 (_, [(.inl x161)], _, _, _)
                        refine ur_push rfl ?_
                        refine ur_if2 rfl (fun c162 => ?_) (fun c162 => ?_)
                        · have t163 := ne_to c162
                          refine ur_push rfl ?_
                          refine ur_svIk [some (.inr (.inr (some 41))), some (.inl a1), some (.inr (.inr (some r13))), some (.inl x52), some (.inl 0), some (.inl x97), some (.inr (.inr (some r147)))] rfl rfl ?_
                          refine ur_ldA rfl rfl ?_
                          obtain ⟨g180, f165, f166, f167, f168, f169, f170, f171, f172, f173, o177, f174, f175, f176, hc164, k178, k179⟩ := hO160.word (hu160.tm k152.2 (by decide))
                          refine ur_get rfl hc164 rfl ?_
                          refine ur_push rfl ?_
                          refine ur_if2 rfl (fun c181 => ?_) (fun c181 => ?_)
                          · have t182 := eq_to c181
                            refine ur_incV (fun z => [some (.inr (.inr (some 41))), some (.inl a1), some (.inr (.inr (some r13))), some (.inl x52), some (.inl 0), some (.inl z), some (.inr (.inr (some r147)))]) rfl rfl (fun _ => rfl) (fun x183 e184 => ?_)
                            have t185 := ti_add e184 (by omega) (by omega)
                            refine ur_go rfl ?_
                            have z186 := any_r x183
                            exact ih101 0 x183 _ _ hO160 (hu102.tr hu160) (by omega) (by omega)
                          · have t187 := eq_no c181
                            refine ur_ldA rfl rfl ?_
                            obtain ⟨f189, f190, hc188, k191⟩ := ok_41 hO160
                            refine ur_get rfl hc188 rfl ?_
                            refine ur_ldI rfl rfl ?_
                            refine ur_push rfl ?_
                            refine ur_binV rfl (fun x192 e193 => ?_)
                            have z194 := any_r a1
                            have t195 := ti_mulL e193 l_3 (by omega) (by omega)
                            refine ur_ldI rfl rfl ?_
                            refine ur_push rfl ?_
                            refine ur_binV rfl (fun x196 e197 => ?_)
                            have t198 := shr_6 e197
                            refine ur_binV rfl (fun x199 e200 => ?_)
                            have z201 := any_r x192
                            have z202 := any_r x196
                            have t203 := ti_add e200 (by omega) (by omega)
                            refine ur_dup2 rfl rfl rfl ?_
                            obtain ⟨xs205, hc204, hn206⟩ := hO160.lon (hO160.fix 45 (by decide) rfl)
                            refine ur_aldJV rfl hc204 hn206 (by omega) (fun y208 hx209 => ?_)
                            refine ur_push rfl ?_
                            refine ur_ldI rfl rfl ?_
                            refine ur_push rfl ?_
                            refine ur_binV rfl (fun x210 e211 => ?_)
                            refine ur_shJV rfl (fun y212 e213 => ?_)
                            refine ur_binJV rfl (fun y214 e215 => ?_)
                            refine ur_astJV (W := [45, 46, 222, 223, 21212]) (m := 36) rfl hO160 hc204 hn206 (by omega) (Or.inr (Or.inr (wid_fix (by decide) (by decide)))) (fun h218 hO218 hu218 d216 hc217 => ?_)
                            refine ur_incV (fun z => [some (.inr (.inr (some 41))), some (.inl a1), some (.inr (.inr (some r13))), some (.inl x52), some (.inl 0), some (.inl z), some (.inr (.inr (some r147)))]) rfl rfl (fun _ => rfl) (fun x219 e220 => ?_)
                            have t221 := ti_add e220 (by omega) (by omega)
                            refine ur_go rfl ?_
                            have z222 := any_r x219
                            exact ih101 0 x219 _ _ hO218 (hu102.tr (hu160.tr hu218)) (by omega) (by omega)
                        · have t223 := ne_no c162
                          refine ur_go rfl ?_
                          refine ur_incV (fun z => [some (.inr (.inr (some 41))), some (.inl a1), some (.inr (.inr (some r13))), some (.inl x52), some (.inl x96), some (.inl z), some (.inr (.inr (some r147)))]) rfl rfl (fun _ => rfl) (fun x224 e225 => ?_)
                          have t226 := ti_add e225 (by omega) (by omega)
                          refine ur_go rfl ?_
                          have z227 := any_r x224
                          exact ih101 x96 x224 _ _ hO160 (hu102.tr hu160) (by omega) (by omega)
                      · have t228 := ne_no c153
                        refine ur_ldA rfl rfl ?_
                        refine ur_ldA rfl rfl ?_
                        refine ur_ldI rfl rfl ?_
                        refine ur_inl rfl (rcv_of hc105) (Nat.le_of_ble_eq_true rfl) (Nat.le_of_ble_eq_true rfl) (sf_X7_isNewRoot hO102 k152.1 k152.2 _ (fun w229 hr230 => ?_))
                        obtain ⟨b231, rfl⟩ := hr230
                        show uRun _ (uCall Mt _) _ 105 (_, [(.inl (bi b231))], _, _, _)
                        refine ur_neB rfl (fun c232 => ?_) (fun c232 => ?_)
                        · refine ur_ldA rfl rfl ?_
                          refine ur_get rfl hc105 rfl ?_
                          refine ur_ldA rfl rfl ?_
                          refine ur_ldA rfl rfl ?_
                          refine ur_ldI rfl rfl ?_
                          refine ur_push rfl ?_
                          refine ur_push rfl ?_
                          refine ur_push rfl ?_
                          obtain ⟨f234, hc233, k235⟩ := ok_8 hO102
                          refine ur_inl rfl (rcv_of hc233) (Nat.le_of_ble_eq_true rfl) (Nat.le_of_ble_eq_true rfl) (sf_X5_fitDay hO102 k152.1 k152.2 g82 (hu102.tm (hu94.tm (hu59.tm (hu30.tm k14.2 (by decide)) (by decide)) (by decide)) (by decide)) _ (by show -60 ≤ x52.toInt ∧ x52.toInt ≤ 60; omega) _ _ _ (fun w236 h238 hr237 hO238 hv238 => ?_))
                          have hu238 : un [45, 46, 222, 223, 21212] h102 h238 := hv238.mono (by decide)
                          obtain ⟨x239, rfl⟩ := hr237
                          show uRun _ (uCall Mt _) _ 127 (_, [(.inl x239)], _, _, _)
                          refine ur_push rfl ?_
                          refine ur_if2 rfl (fun c240 => ?_) (fun c240 => ?_)
                          · have t241 := ne_to c240
                            refine ur_push rfl ?_
                            refine ur_svIk [some (.inr (.inr (some 41))), some (.inl a1), some (.inr (.inr (some r13))), some (.inl x52), some (.inl 0), some (.inl x97), some (.inr (.inr (some r147)))] rfl rfl ?_
                            refine ur_ldA rfl rfl ?_
                            obtain ⟨g258, f243, f244, f245, f246, f247, f248, f249, f250, f251, o255, f252, f253, f254, hc242, k256, k257⟩ := hO238.word (hu238.tm k152.2 (by decide))
                            refine ur_get rfl hc242 rfl ?_
                            refine ur_push rfl ?_
                            refine ur_if2 rfl (fun c259 => ?_) (fun c259 => ?_)
                            · have t260 := eq_to c259
                              refine ur_incV (fun z => [some (.inr (.inr (some 41))), some (.inl a1), some (.inr (.inr (some r13))), some (.inl x52), some (.inl 0), some (.inl z), some (.inr (.inr (some r147)))]) rfl rfl (fun _ => rfl) (fun x261 e262 => ?_)
                              have t263 := ti_add e262 (by omega) (by omega)
                              refine ur_go rfl ?_
                              have z264 := any_r x261
                              exact ih101 0 x261 _ _ hO238 (hu102.tr hu238) (by omega) (by omega)
                            · have t265 := eq_no c259
                              refine ur_ldA rfl rfl ?_
                              obtain ⟨f267, f268, hc266, k269⟩ := ok_41 hO238
                              refine ur_get rfl hc266 rfl ?_
                              refine ur_ldI rfl rfl ?_
                              refine ur_push rfl ?_
                              refine ur_binV rfl (fun x270 e271 => ?_)
                              have z272 := any_r a1
                              have t273 := ti_mulL e271 l_3 (by omega) (by omega)
                              refine ur_ldI rfl rfl ?_
                              refine ur_push rfl ?_
                              refine ur_binV rfl (fun x274 e275 => ?_)
                              have t276 := shr_6 e275
                              refine ur_binV rfl (fun x277 e278 => ?_)
                              have z279 := any_r x270
                              have z280 := any_r x274
                              have t281 := ti_add e278 (by omega) (by omega)
                              refine ur_dup2 rfl rfl rfl ?_
                              obtain ⟨xs283, hc282, hn284⟩ := hO238.lon (hO238.fix 45 (by decide) rfl)
                              refine ur_aldJV rfl hc282 hn284 (by omega) (fun y286 hx287 => ?_)
                              refine ur_push rfl ?_
                              refine ur_ldI rfl rfl ?_
                              refine ur_push rfl ?_
                              refine ur_binV rfl (fun x288 e289 => ?_)
                              refine ur_shJV rfl (fun y290 e291 => ?_)
                              refine ur_binJV rfl (fun y292 e293 => ?_)
                              refine ur_astJV (W := [45, 46, 222, 223, 21212]) (m := 36) rfl hO238 hc282 hn284 (by omega) (Or.inr (Or.inr (wid_fix (by decide) (by decide)))) (fun h296 hO296 hu296 d294 hc295 => ?_)
                              refine ur_incV (fun z => [some (.inr (.inr (some 41))), some (.inl a1), some (.inr (.inr (some r13))), some (.inl x52), some (.inl 0), some (.inl z), some (.inr (.inr (some r147)))]) rfl rfl (fun _ => rfl) (fun x297 e298 => ?_)
                              have t299 := ti_add e298 (by omega) (by omega)
                              refine ur_go rfl ?_
                              have z300 := any_r x297
                              exact ih101 0 x297 _ _ hO296 (hu102.tr (hu238.tr hu296)) (by omega) (by omega)
                          · have t301 := ne_no c240
                            refine ur_go rfl ?_
                            refine ur_incV (fun z => [some (.inr (.inr (some 41))), some (.inl a1), some (.inr (.inr (some r13))), some (.inl x52), some (.inl x96), some (.inl z), some (.inr (.inr (some r147)))]) rfl rfl (fun _ => rfl) (fun x302 e303 => ?_)
                            have t304 := ti_add e303 (by omega) (by omega)
                            refine ur_go rfl ?_
                            have z305 := any_r x302
                            exact ih101 x96 x302 _ _ hO238 (hu102.tr hu238) (by omega) (by omega)
                        · refine ur_go rfl ?_
                          refine ur_incV (fun z => [some (.inr (.inr (some 41))), some (.inl a1), some (.inr (.inr (some r13))), some (.inl x52), some (.inl x96), some (.inl z), some (.inr (.inr (some r147)))]) rfl rfl (fun _ => rfl) (fun x306 e307 => ?_)
                          have t308 := ti_add e307 (by omega) (by omega)
                          refine ur_go rfl ?_
                          have z309 := any_r x306
                          exact ih101 x96 x306 _ _ hO102 hu102 (by omega) (by omega)
              exact L99 _ (bi b95) 0 (u55) _ hO94 un.rf (by omega) (Nat.lt_succ_self _)
        have z310 := any_r f40
        exact L56 _ f40 (none) (none) (none) _ hO30 un.rf (by omega) (Nat.lt_succ_self _)
      · have t311 := eq_no c26
        exact ur_ret0 rfl (hQ _ _ rfl hO0 un.rf)

set_option maxRecDepth 20000 in
set_option maxHeartbeats 4000000 in
theorem sf_X7_worthOf {d kc ks : Nat} {h0 : aH} {Q : Option aV → aH → Prop} (hO0 : OK h0) (a1 : Int32) (hQ : ∀ r, (∃ x, r = some (.inl x)) → Q r h0) : uCall Mt (d + 2) 78 [(.inr (.inr (some 41))), (.inl a1)] h0 kc ks Q := by
  have l_m5 : ((-5) : Int32).toInt = -5 := by decide
  have l_0 : ((0) : Int32).toInt = 0 := by decide
  have l_1 : ((1) : Int32).toInt = 1 := by decide
  have l_2 : ((2) : Int32).toInt = 2 := by decide
  have l_3 : ((3) : Int32).toInt = 3 := by decide
  have l_12 : ((12) : Int32).toInt = 12 := by decide
  refine uc_ink [some (.inr (.inr (some 41))), some (.inl a1), none, none, none, none, none, none, none, none] mt_78 (Nat.le_of_ble_eq_true rfl) rfl ?_
  refine ur_push rfl ?_
  refine ur_ldI rfl rfl ?_
  refine ur_inl rfl rfl (Nat.le_of_ble_eq_true rfl) (Nat.le_of_ble_eq_true rfl) (sf_J6_bitCount_0f7a4 _ (fun w1 hr2 => ?_))
  obtain ⟨x3, rfl⟩ := hr2
  show uRun _ (uCall Mt _) _ 6 (_, [(.inl x3), (.inl (-5))], _, _, _)
  refine ur_binV rfl (fun x4 e5 => ?_)
  have z6 := any_r x3
  refine ur_svIk [some (.inr (.inr (some 41))), some (.inl a1), some (.inl x4), none, none, none, none, none, none, none] rfl rfl ?_
  refine ur_push rfl ?_
  refine ur_svJk [some (.inr (.inr (some 41))), some (.inl a1), some (.inl x4), some (.inr (.inl 0)), none, none, none, none, none, none] rfl rfl ?_
  refine ur_push rfl ?_
  refine ur_svJk [some (.inr (.inr (some 41))), some (.inl a1), some (.inl x4), some (.inr (.inl 0)), none, some (.inr (.inl 0)), none, none, none, none] rfl rfl ?_
  refine ur_push rfl ?_
  refine ur_svJk [some (.inr (.inr (some 41))), some (.inl a1), some (.inl x4), some (.inr (.inl 0)), none, some (.inr (.inl 0)), none, some (.inr (.inl 0)), none, none] rfl rfl ?_
  refine ur_push rfl ?_
  refine ur_svIk [some (.inr (.inr (some 41))), some (.inl a1), some (.inl x4), some (.inr (.inl 0)), none, some (.inr (.inl 0)), none, some (.inr (.inl 0)), none, some (.inl 0)] rfl rfl ?_
  have L12 : ∀ (m13 : Nat) (x7 : Int32) (y8 : Int64) (y9 : Int64) (y10 : Int64) (x11 : Int32) , ((0 ≤ x11.toInt ∧ x11.toInt ≤ 2147483647)) → ((2147483648 - x11.toInt).toNat) < m13 → uRun oX7_worthOf (uCall Mt (d + 1)) Q 19 ([some (.inr (.inr (some 41))), some (.inl a1), some (.inl x7), some (.inr (.inl y8)), none, some (.inr (.inl y9)), none, some (.inr (.inl y10)), none, some (.inl x11)], [], h0, kc, ks) := by
    intro m13
    induction m13 with
    | zero => intro x7 y8 y9 y10 x11 iv15 mm16; omega
    | succ m13 ih14 =>
      intro x7 y8 y9 y10 x11 iv15 mm16
      refine ur_ldI rfl rfl ?_
      refine ur_push rfl ?_
      refine ur_if2 rfl (fun c17 => ?_) (fun c17 => ?_)
      · have t18 := le_to c17
        refine ur_ldI rfl rfl ?_
        refine ur_push rfl ?_
        refine ur_ldJ rfl rfl ?_
        refine ur_inl rfl rfl (Nat.le_of_ble_eq_true rfl) (Nat.le_of_ble_eq_true rfl) (sf_J13_bitCount_95d88 _ (fun w19 hr20 => ?_))
        obtain ⟨x21, rfl⟩ := hr20
        show uRun _ (uCall Mt _) _ 104 (_, [(.inl x21), (.inl 3), (.inl x7)], _, _, _)
        refine ur_ldJ rfl rfl ?_
        refine ur_inl rfl rfl (Nat.le_of_ble_eq_true rfl) (Nat.le_of_ble_eq_true rfl) (sf_J13_bitCount_95d88 _ (fun w22 hr23 => ?_))
        obtain ⟨x24, rfl⟩ := hr23
        show uRun _ (uCall Mt _) _ 109 (_, [(.inl x24), (.inl x21), (.inl 3), (.inl x7)], _, _, _)
        refine ur_binV rfl (fun x25 e26 => ?_)
        have z27 := any_r x21
        have z28 := any_r x24
        refine ur_ldJ rfl rfl ?_
        refine ur_inl rfl rfl (Nat.le_of_ble_eq_true rfl) (Nat.le_of_ble_eq_true rfl) (sf_J13_bitCount_95d88 _ (fun w29 hr30 => ?_))
        obtain ⟨x31, rfl⟩ := hr30
        show uRun _ (uCall Mt _) _ 115 (_, [(.inl x31), (.inl x25), (.inl 3), (.inl x7)], _, _, _)
        refine ur_binV rfl (fun x32 e33 => ?_)
        have z34 := any_r x25
        have z35 := any_r x31
        refine ur_binV rfl (fun x36 e37 => ?_)
        have z38 := any_r x32
        refine ur_binV rfl (fun x39 e40 => ?_)
        have z41 := any_r x7
        have z42 := any_r x36
        exact ur_ret rfl rfl (hQ _ ⟨_, rfl⟩ )
      · have t43 := le_no c17
        refine ur_ldI rfl rfl ?_
        refine ur_ldI rfl rfl ?_
        refine ur_binV rfl (fun x44 e45 => ?_)
        have z46 := any_r a1
        have z47 := any_r x11
        refine ur_push rfl ?_
        refine ur_binV rfl (fun x48 e49 => ?_)
        have t50 := and_1 e49
        refine ur_if1 rfl (fun c51 => ?_) (fun c51 => ?_)
        · have t52 := ne_to c51
          refine ur_ldI rfl rfl ?_
          refine ur_ldA rfl rfl ?_
          obtain ⟨f54, f55, hc53, k56⟩ := ok_41 hO0
          refine ur_get rfl hc53 rfl ?_
          refine ur_ldI rfl rfl ?_
          obtain ⟨xs58, hc57, hn59, he60⟩ := hO0.int (hO0.fix 46 (by decide) rfl)
          refine ur_aldV rfl hc57 hn59 (by omega) (fun x61 hx62 => ?_)
          refine ur_binV rfl (fun x63 e64 => ?_)
          have z65 := any_r x7
          have z66 := any_r x61
          refine ur_svIk [some (.inr (.inr (some 41))), some (.inl a1), some (.inl x63), some (.inr (.inl y8)), none, some (.inr (.inl y9)), none, some (.inr (.inl y10)), none, some (.inl x11)] rfl rfl ?_
          refine ur_ldJ rfl rfl ?_
          refine ur_ldA rfl rfl ?_
          refine ur_get rfl hc53 rfl ?_
          refine ur_ldI rfl rfl ?_
          refine ur_push rfl ?_
          refine ur_binV rfl (fun x67 e68 => ?_)
          have t69 := ti_mulL e68 l_3 (by omega) (by omega)
          obtain ⟨xs71, hc70, hn72⟩ := hO0.lon (hO0.fix 45 (by decide) rfl)
          refine ur_aldJV rfl hc70 hn72 (by omega) (fun y74 hx75 => ?_)
          refine ur_binJV rfl (fun y76 e77 => ?_)
          refine ur_svJk [some (.inr (.inr (some 41))), some (.inl a1), some (.inl x63), some (.inr (.inl y76)), none, some (.inr (.inl y9)), none, some (.inr (.inl y10)), none, some (.inl x11)] rfl rfl ?_
          refine ur_ldJ rfl rfl ?_
          refine ur_ldA rfl rfl ?_
          refine ur_get rfl hc53 rfl ?_
          refine ur_ldI rfl rfl ?_
          refine ur_push rfl ?_
          refine ur_binV rfl (fun x78 e79 => ?_)
          have t80 := ti_mulL e79 l_3 (by omega) (by omega)
          refine ur_push rfl ?_
          refine ur_binV rfl (fun x81 e82 => ?_)
          have z83 := any_r x78
          have t84 := ti_add e82 (by omega) (by omega)
          refine ur_aldJV rfl hc70 hn72 (by omega) (fun y85 hx86 => ?_)
          refine ur_binJV rfl (fun y87 e88 => ?_)
          refine ur_svJk [some (.inr (.inr (some 41))), some (.inl a1), some (.inl x63), some (.inr (.inl y76)), none, some (.inr (.inl y87)), none, some (.inr (.inl y10)), none, some (.inl x11)] rfl rfl ?_
          refine ur_ldJ rfl rfl ?_
          refine ur_ldA rfl rfl ?_
          refine ur_get rfl hc53 rfl ?_
          refine ur_ldI rfl rfl ?_
          refine ur_push rfl ?_
          refine ur_binV rfl (fun x89 e90 => ?_)
          have t91 := ti_mulL e90 l_3 (by omega) (by omega)
          refine ur_push rfl ?_
          refine ur_binV rfl (fun x92 e93 => ?_)
          have z94 := any_r x89
          have t95 := ti_add e93 (by omega) (by omega)
          refine ur_aldJV rfl hc70 hn72 (by omega) (fun y96 hx97 => ?_)
          refine ur_binJV rfl (fun y98 e99 => ?_)
          refine ur_svJk [some (.inr (.inr (some 41))), some (.inl a1), some (.inl x63), some (.inr (.inl y76)), none, some (.inr (.inl y87)), none, some (.inr (.inl y98)), none, some (.inl x11)] rfl rfl ?_
          refine ur_incV (fun z => [some (.inr (.inr (some 41))), some (.inl a1), some (.inl x63), some (.inr (.inl y76)), none, some (.inr (.inl y87)), none, some (.inr (.inl y98)), none, some (.inl z)]) rfl rfl (fun _ => rfl) (fun x100 e101 => ?_)
          have t102 := ti_add e101 (by omega) (by omega)
          refine ur_go rfl ?_
          have z103 := any_r x100
          exact ih14 x63 y76 y87 y98 x100 (by omega) (by omega)
        · have t104 := ne_no c51
          refine ur_go rfl ?_
          refine ur_incV (fun z => [some (.inr (.inr (some 41))), some (.inl a1), some (.inl x7), some (.inr (.inl y8)), none, some (.inr (.inl y9)), none, some (.inr (.inl y10)), none, some (.inl z)]) rfl rfl (fun _ => rfl) (fun x105 e106 => ?_)
          have t107 := ti_add e106 (by omega) (by omega)
          refine ur_go rfl ?_
          have z108 := any_r x105
          exact ih14 x7 y8 y9 y10 x105 (by omega) (by omega)
  exact L12 _ x4 0 0 0 0 (by omega) (Nat.lt_succ_self _)

set_option maxRecDepth 20000 in
set_option maxHeartbeats 4000000 in
theorem sf_X7_bestSetOf {d kc ks : Nat} {h0 : aH} {Q : Option aV → aH → Prop} (hO0 : OK h0) (a1 : Int32) (hQ : ∀ r, (∃ x, r = some (.inl x)) → Q r h0) : uCall Mt (d + 3) 79 [(.inr (.inr (some 41))), (.inl a1)] h0 kc ks Q := by
  have l_0 : ((0) : Int32).toInt = 0 := by decide
  have l_1 : ((1) : Int32).toInt = 1 := by decide
  refine uc_ink [some (.inr (.inr (some 41))), some (.inl a1), none, none, none, none, none] mt_79 (Nat.le_of_ble_eq_true rfl) rfl ?_
  refine ur_push rfl ?_
  refine ur_svIk [some (.inr (.inr (some 41))), some (.inl a1), some (.inl 0), none, none, none, none] rfl rfl ?_
  refine ur_push rfl ?_
  refine ur_svIk [some (.inr (.inr (some 41))), some (.inl a1), some (.inl 0), some (.inl 0), none, none, none] rfl rfl ?_
  refine ur_push rfl ?_
  refine ur_svIk [some (.inr (.inr (some 41))), some (.inl a1), some (.inl 0), some (.inl 0), some (.inl 1), none, none] rfl rfl ?_
  have L6 : ∀ (m7 : Nat) (x1 : Int32) (x2 : Int32) (x3 : Int32) (u4 : Option aV) (u5 : Option aV) , ((1 ≤ x3.toInt ∧ x3.toInt ≤ 2147483647)) → ((2147483648 - x3.toInt).toNat) < m7 → uRun oX7_bestSetOf (uCall Mt (d + 2)) Q 7 ([some (.inr (.inr (some 41))), some (.inl a1), some (.inl x1), some (.inl x2), some (.inl x3), u4, u5], [], h0, kc, ks) := by
    intro m7
    induction m7 with
    | zero => intro x1 x2 x3 u4 u5 iv9 mm10; omega
    | succ m7 ih8 =>
      intro x1 x2 x3 u4 u5 iv9 mm10
      refine ur_ldI rfl rfl ?_
      refine ur_push rfl ?_
      refine ur_ldI rfl rfl ?_
      refine ur_binV rfl (fun x11 e12 => ?_)
      have z13 := any_r x3
      have z14 := any_r x11
      refine ur_if2 rfl (fun c15 => ?_) (fun c15 => ?_)
      · have t16 := le_to c15
        refine ur_ldI rfl rfl ?_
        exact ur_ret rfl rfl (hQ _ ⟨_, rfl⟩ )
      · have t17 := le_no c15
        refine ur_ldA rfl rfl ?_
        refine ur_ldI rfl rfl ?_
        obtain ⟨f19, f20, hc18, k21⟩ := ok_41 hO0
        refine ur_inl rfl (rcv_of hc18) (Nat.le_of_ble_eq_true rfl) (Nat.le_of_ble_eq_true rfl) (sf_X7_worthOf hO0 _ (fun w22 hr23 => ?_))
        obtain ⟨x24, rfl⟩ := hr23
        show uRun _ (uCall Mt _) _ 21 (_, [(.inl x24)], _, _, _)
        refine ur_svIk [some (.inr (.inr (some 41))), some (.inl a1), some (.inl x1), some (.inl x2), some (.inl x3), some (.inl x24), u5] rfl rfl ?_
        refine ur_ldI rfl rfl ?_
        refine ur_inl rfl rfl (Nat.le_of_ble_eq_true rfl) (Nat.le_of_ble_eq_true rfl) (sf_J6_bitCount_0f7a4 _ (fun w25 hr26 => ?_))
        obtain ⟨x27, rfl⟩ := hr26
        show uRun _ (uCall Mt _) _ 28 (_, [(.inl x27)], _, _, _)
        refine ur_ldI rfl rfl ?_
        refine ur_inl rfl rfl (Nat.le_of_ble_eq_true rfl) (Nat.le_of_ble_eq_true rfl) (sf_J6_bitCount_0f7a4 _ (fun w28 hr29 => ?_))
        obtain ⟨x30, rfl⟩ := hr29
        show uRun _ (uCall Mt _) _ 32 (_, [(.inl x30), (.inl x27)], _, _, _)
        have z31 := any_r x27
        have z32 := any_r x30
        refine ur_if2 rfl (fun c33 => ?_) (fun c33 => ?_)
        · have t34 := le_to c33
          refine ur_push rfl ?_
          refine ur_svIk [some (.inr (.inr (some 41))), some (.inl a1), some (.inl x1), some (.inl x2), some (.inl x3), some (.inl x24), some (.inl 0)] rfl rfl ?_
          refine ur_ldI rfl rfl ?_
          refine ur_ldI rfl rfl ?_
          have z35 := any_r x24
          have z36 := any_r x2
          refine ur_if2 rfl (fun c37 => ?_) (fun c37 => ?_)
          · have t38 := lt_to c37
            refine ur_ldI rfl rfl ?_
            refine ur_svIk [some (.inr (.inr (some 41))), some (.inl a1), some (.inl x3), some (.inl x2), some (.inl x3), some (.inl x24), some (.inl 0)] rfl rfl ?_
            refine ur_ldI rfl rfl ?_
            refine ur_svIk [some (.inr (.inr (some 41))), some (.inl a1), some (.inl x3), some (.inl x24), some (.inl x3), some (.inl x24), some (.inl 0)] rfl rfl ?_
            refine ur_incV (fun z => [some (.inr (.inr (some 41))), some (.inl a1), some (.inl x3), some (.inl x24), some (.inl z), some (.inl x24), some (.inl 0)]) rfl rfl (fun _ => rfl) (fun x39 e40 => ?_)
            have t41 := ti_add e40 (by omega) (by omega)
            refine ur_go rfl ?_
            have z42 := any_r x39
            exact ih8 x3 x24 x39 _ _ (by omega) (by omega)
          · have t43 := lt_no c37
            refine ur_ldI rfl rfl ?_
            refine ur_ldI rfl rfl ?_
            refine ur_if2 rfl (fun c44 => ?_) (fun c44 => ?_)
            · have t45 := ne_to c44
              refine ur_incV (fun z => [some (.inr (.inr (some 41))), some (.inl a1), some (.inl x1), some (.inl x2), some (.inl z), some (.inl x24), some (.inl 0)]) rfl rfl (fun _ => rfl) (fun x46 e47 => ?_)
              have t48 := ti_add e47 (by omega) (by omega)
              refine ur_go rfl ?_
              have z49 := any_r x46
              exact ih8 x1 x2 x46 _ _ (by omega) (by omega)
            · have t50 := ne_no c44
              refine ur_ldI rfl rfl ?_
              refine ur_if1t rfl (by decide) ?_
              refine ur_incV (fun z => [some (.inr (.inr (some 41))), some (.inl a1), some (.inl x1), some (.inl x2), some (.inl z), some (.inl x24), some (.inl 0)]) rfl rfl (fun _ => rfl) (fun x51 e52 => ?_)
              have t53 := ti_add e52 (by omega) (by omega)
              refine ur_go rfl ?_
              have z54 := any_r x51
              exact ih8 x1 x2 x51 _ _ (by omega) (by omega)
        · have t55 := le_no c33
          refine ur_push rfl ?_
          refine ur_go rfl ?_
          refine ur_svIk [some (.inr (.inr (some 41))), some (.inl a1), some (.inl x1), some (.inl x2), some (.inl x3), some (.inl x24), some (.inl 1)] rfl rfl ?_
          refine ur_ldI rfl rfl ?_
          refine ur_ldI rfl rfl ?_
          have z56 := any_r x24
          have z57 := any_r x2
          refine ur_if2 rfl (fun c58 => ?_) (fun c58 => ?_)
          · have t59 := lt_to c58
            refine ur_ldI rfl rfl ?_
            refine ur_svIk [some (.inr (.inr (some 41))), some (.inl a1), some (.inl x3), some (.inl x2), some (.inl x3), some (.inl x24), some (.inl 1)] rfl rfl ?_
            refine ur_ldI rfl rfl ?_
            refine ur_svIk [some (.inr (.inr (some 41))), some (.inl a1), some (.inl x3), some (.inl x24), some (.inl x3), some (.inl x24), some (.inl 1)] rfl rfl ?_
            refine ur_incV (fun z => [some (.inr (.inr (some 41))), some (.inl a1), some (.inl x3), some (.inl x24), some (.inl z), some (.inl x24), some (.inl 1)]) rfl rfl (fun _ => rfl) (fun x60 e61 => ?_)
            have t62 := ti_add e61 (by omega) (by omega)
            refine ur_go rfl ?_
            have z63 := any_r x60
            exact ih8 x3 x24 x60 _ _ (by omega) (by omega)
          · have t64 := lt_no c58
            refine ur_ldI rfl rfl ?_
            refine ur_ldI rfl rfl ?_
            refine ur_if2 rfl (fun c65 => ?_) (fun c65 => ?_)
            · have t66 := ne_to c65
              refine ur_incV (fun z => [some (.inr (.inr (some 41))), some (.inl a1), some (.inl x1), some (.inl x2), some (.inl z), some (.inl x24), some (.inl 1)]) rfl rfl (fun _ => rfl) (fun x67 e68 => ?_)
              have t69 := ti_add e68 (by omega) (by omega)
              refine ur_go rfl ?_
              have z70 := any_r x67
              exact ih8 x1 x2 x67 _ _ (by omega) (by omega)
            · have t71 := ne_no c65
              refine ur_ldI rfl rfl ?_
              refine ur_if1f rfl (by decide) ?_
              refine ur_ldI rfl rfl ?_
              refine ur_svIk [some (.inr (.inr (some 41))), some (.inl a1), some (.inl x3), some (.inl x2), some (.inl x3), some (.inl x24), some (.inl 1)] rfl rfl ?_
              refine ur_ldI rfl rfl ?_
              refine ur_svIk [some (.inr (.inr (some 41))), some (.inl a1), some (.inl x3), some (.inl x24), some (.inl x3), some (.inl x24), some (.inl 1)] rfl rfl ?_
              refine ur_incV (fun z => [some (.inr (.inr (some 41))), some (.inl a1), some (.inl x3), some (.inl x24), some (.inl z), some (.inl x24), some (.inl 1)]) rfl rfl (fun _ => rfl) (fun x72 e73 => ?_)
              have t74 := ti_add e73 (by omega) (by omega)
              refine ur_go rfl ?_
              have z75 := any_r x72
              exact ih8 x3 x24 x72 _ _ (by omega) (by omega)
  exact L6 _ 0 0 1 (none) (none) (by omega) (Nat.lt_succ_self _)

set_option maxRecDepth 20000 in
set_option maxHeartbeats 4000000 in
theorem sf_X7_countDays {d kc ks : Nat} {h0 : aH} {Q : Option aV → aH → Prop} (hO0 : OK h0) {a1 : Nat} (g1 : 114 ≤ a1) (t1 : tg h0 a1 = (110, 13)) {a2 : Nat} (g2 : 114 ≤ a2) (t2 : tg h0 a2 = (102, 14)) (a3 : Int32) (b3 : -60 ≤ a3.toInt ∧ a3.toInt ≤ 60) (hQ : ∀ r h', (∃ q, r = some (.inl (bi q))) → OK h' → un [222, 223, 21212] h0 h' → Q r h') : uCall Mt (d + 6) 84 [(.inr (.inr (some 41))), (.inr (.inr (some a1))), (.inr (.inr (some a2))), (.inl a3)] h0 kc ks Q := by
  have l_m400 : ((-400) : Int32).toInt = -400 := by decide
  have l_0 : ((0) : Int32).toInt = 0 := by decide
  have l_1 : ((1) : Int32).toInt = 1 := by decide
  have l_120 : ((120) : Int32).toInt = 120 := by decide
  have l_241 : ((241) : Int32).toInt = 241 := by decide
  have l_400 : ((400) : Int32).toInt = 400 := by decide
  have l_999999 : ((999999) : Int32).toInt = 999999 := by decide
  refine uc_ink [some (.inr (.inr (some 41))), some (.inr (.inr (some a1))), some (.inr (.inr (some a2))), some (.inl a3), none, none, none, none, none, none, none] mt_84 (Nat.le_of_ble_eq_true rfl) rfl ?_
  refine ur_ldA rfl rfl ?_
  refine ur_ldI rfl rfl ?_
  obtain ⟨g21, f2, f3, f4, f5, f6, f7, f8, f9, f10, f11, q12, q13, o14, q15, hc1, k16, k17, k18, k19, k20⟩ := hO0.comet t2
  refine ur_inl rfl (rcv_of hc1) (Nat.le_of_ble_eq_true rfl) (Nat.le_of_ble_eq_true rfl) (sf_X2_passOf hO0 g21 t2 _ (fun w22 hr23 => ?_))
  obtain ⟨x24, rfl⟩ := hr23
  show uRun _ (uCall Mt _) _ 5 (_, [(.inl x24)], _, _, _)
  refine ur_svIk [some (.inr (.inr (some 41))), some (.inr (.inr (some a1))), some (.inr (.inr (some a2))), some (.inl a3), some (.inl x24), none, none, none, none, none, none] rfl rfl ?_
  refine ur_push rfl ?_
  refine ur_svIk [some (.inr (.inr (some 41))), some (.inr (.inr (some a1))), some (.inr (.inr (some a2))), some (.inl a3), some (.inl x24), some (.inl 999999), none, none, none, none, none] rfl rfl ?_
  refine ur_push rfl ?_
  refine ur_svIk [some (.inr (.inr (some 41))), some (.inr (.inr (some a1))), some (.inr (.inr (some a2))), some (.inl a3), some (.inl x24), some (.inl 999999), some (.inl 0), none, none, none, none] rfl rfl ?_
  refine ur_push rfl ?_
  refine ur_svIk [some (.inr (.inr (some 41))), some (.inr (.inr (some a1))), some (.inr (.inr (some a2))), some (.inl a3), some (.inl x24), some (.inl 999999), some (.inl 0), some (.inl 0), none, none, none] rfl rfl ?_
  have L28 : ∀ (m29 : Nat) (x25 : Int32) (x26 : Int32) (x27 : Int32) , ((0 ≤ x27.toInt ∧ x27.toInt ≤ 2147483647)) → ((2147483648 - x27.toInt).toNat) < m29 → uRun oX7_countDays (uCall Mt (d + 5)) Q 17 ([some (.inr (.inr (some 41))), some (.inr (.inr (some a1))), some (.inr (.inr (some a2))), some (.inl a3), some (.inl x24), some (.inl x25), some (.inl x26), some (.inl x27), none, none, none], [], h0, kc, ks) := by
    intro m29
    induction m29 with
    | zero => intro x25 x26 x27 iv31 mm32; omega
    | succ m29 ih30 =>
      intro x25 x26 x27 iv31 mm32
      refine ur_ldI rfl rfl ?_
      refine ur_ldA rfl rfl ?_
      obtain ⟨g49, f34, f35, f36, f37, f38, f39, f40, f41, f42, o46, f43, f44, f45, hc33, k47, k48⟩ := hO0.word t1
      refine ur_get rfl hc33 rfl ?_
      have z50 := any_r x27
      have z51 := any_r f43
      refine ur_if2 rfl (fun c52 => ?_) (fun c52 => ?_)
      · have t53 := le_to c52
        refine ur_ldI rfl rfl ?_
        refine ur_ldI rfl rfl ?_
        refine ur_push rfl ?_
        refine ur_binV rfl (fun x54 e55 => ?_)
        have z56 := any_r x24
        refine ur_maxV rfl (by show ¬ 9 ≤ 2; decide) (fun x57 t58 e59 => ?_)
        refine ur_svIk [some (.inr (.inr (some 41))), some (.inr (.inr (some a1))), some (.inr (.inr (some a2))), some (.inl a3), some (.inl x24), some (.inl x57), some (.inl x26), some (.inl x27), none, none, none] rfl rfl ?_
        refine ur_ldI rfl rfl ?_
        refine ur_ldI rfl rfl ?_
        refine ur_push rfl ?_
        refine ur_binV rfl (fun x60 e61 => ?_)
        refine ur_minV rfl (by show ¬ 9 ≤ 2; decide) (fun x62 t63 e64 => ?_)
        refine ur_svIk [some (.inr (.inr (some 41))), some (.inr (.inr (some a1))), some (.inr (.inr (some a2))), some (.inl a3), some (.inl x24), some (.inl x57), some (.inl x62), some (.inl x27), none, none, none] rfl rfl ?_
        refine ur_ldI rfl rfl ?_
        refine ur_ldI rfl rfl ?_
        have z65 := any_r x57
        have z66 := any_r x62
        refine ur_if2 rfl (fun c67 => ?_) (fun c67 => ?_)
        · have t68 := le_to c67
          refine ur_push rfl ?_
          refine ur_svIk [some (.inr (.inr (some 41))), some (.inr (.inr (some a1))), some (.inr (.inr (some a2))), some (.inl a3), some (.inl x24), some (.inl x57), some (.inl x62), some (.inl 0), none, none, none] rfl rfl ?_
          have L73 : ∀ (m74 : Nat) (x69 : Int32) (u70 : Option aV) (u71 : Option aV) (u72 : Option aV) (h76 : aH) , OK h76 → un [222, 223, 21212] h0 h76 → ((0 ≤ x69.toInt ∧ x69.toInt ≤ 2147483647)) → ((2147483648 - x69.toInt).toNat) < m74 → uRun oX7_countDays (uCall Mt (d + 5)) Q 100 ([some (.inr (.inr (some 41))), some (.inr (.inr (some a1))), some (.inr (.inr (some a2))), some (.inl a3), some (.inl x24), some (.inl x57), some (.inl x62), some (.inl x69), u70, u71, u72], [], h76, kc, ks) := by
            intro m74
            induction m74 with
            | zero => intro x69 u70 u71 u72 h76 hO76 hu76 iv77 mm78; omega
            | succ m74 ih75 =>
              intro x69 u70 u71 u72 h76 hO76 hu76 iv77 mm78
              refine ur_ldI rfl rfl ?_
              refine ur_push rfl ?_
              refine ur_if2 rfl (fun c79 => ?_) (fun c79 => ?_)
              · have t80 := le_to c79
                refine ur_push rfl ?_
                exact ur_ret rfl rfl (hQ _ _ ⟨true, rfl⟩ hO76 hu76)
              · have t81 := le_no c79
                refine ur_ldI rfl rfl ?_
                refine ur_push rfl ?_
                refine ur_binV rfl (fun x82 e83 => ?_)
                have t84 : x82.toInt = x54.toInt := congrArg Int32.toInt (e83.symm.trans e55)
                refine ur_ldI rfl rfl ?_
                refine ur_binV rfl (fun x85 e86 => ?_)
                have z87 := any_r x82
                have z88 := any_r x69
                refine ur_svIk [some (.inr (.inr (some 41))), some (.inr (.inr (some a1))), some (.inr (.inr (some a2))), some (.inl a3), some (.inl x24), some (.inl x57), some (.inl x62), some (.inl x69), some (.inl x85), u71, u72] rfl rfl ?_
                refine ur_ldI rfl rfl ?_
                refine ur_ldI rfl rfl ?_
                refine ur_ldI rfl rfl ?_
                refine ur_callv rfl rfl (Nat.le_of_ble_eq_true rfl) (Nat.le_of_ble_eq_true rfl) rfl (sp_within _ _ _ _ _) ?_
                refine ur_eqB rfl (fun c91 => ?_) (fun c91 => ?_)
                · have t92 := wi_no c91
                  refine ur_push rfl ?_
                  refine ur_svIk [some (.inr (.inr (some 41))), some (.inr (.inr (some a1))), some (.inr (.inr (some a2))), some (.inl a3), some (.inl x24), some (.inl x57), some (.inl x62), some (.inl x69), some (.inl x85), some (.inl 0), u72] rfl rfl ?_
                  refine ur_ldI rfl rfl ?_
                  refine ur_if1t rfl (by decide) ?_
                  refine ur_push rfl ?_
                  refine ur_svIk [some (.inr (.inr (some 41))), some (.inr (.inr (some a1))), some (.inr (.inr (some a2))), some (.inl a3), some (.inl x24), some (.inl x57), some (.inl x62), some (.inl x69), some (.inl x85), some (.inl 0), some (.inl 0)] rfl rfl ?_
                  refine ur_ldA rfl rfl ?_
                  obtain ⟨f94, f95, hc93, k96⟩ := ok_41 hO76
                  refine ur_get rfl hc93 rfl ?_
                  refine ur_ldI rfl rfl ?_
                  refine ur_push rfl ?_
                  refine ur_binV rfl (fun x97 e98 => ?_)
                  have t99 := ti_add e98 (by omega) (by omega)
                  refine ur_ldA rfl rfl ?_
                  refine ur_get rfl hc93 rfl ?_
                  refine ur_ldI rfl rfl ?_
                  obtain ⟨xs101, hc100, hn102, he103⟩ := hO76.int (hO76.fix 47 (by decide) rfl)
                  refine ur_aldV rfl hc100 hn102 (by omega) (fun x104 hx105 => ?_)
                  refine ur_ldI rfl rfl ?_
                  refine ur_if1t rfl (by decide) ?_
                  refine ur_push rfl ?_
                  refine ur_binV rfl (fun x106 e107 => ?_)
                  have z108 := any_r x104
                  have t109 := ti_add e107 (by omega) (by omega)
                  refine ur_astV (W := [222, 223, 21212]) (m := 242) rfl hO76 hc100 (by decide) hn102 (by omega) (any_r _) (Or.inl rfl) (fun h112 hO112 hu112 d110 hc111 => ?_)
                  refine ur_ldA rfl rfl ?_
                  refine ur_get rfl ((d110 _ (by decide)).trans hc93) rfl ?_
                  refine ur_ldI rfl rfl ?_
                  refine ur_push rfl ?_
                  refine ur_binV rfl (fun x113 e114 => ?_)
                  have t115 := ti_add e114 (by omega) (by omega)
                  refine ur_ldA rfl rfl ?_
                  refine ur_get rfl ((d110 _ (by decide)).trans hc93) rfl ?_
                  refine ur_ldI rfl rfl ?_
                  obtain ⟨xs117, hc116, hn118, he119⟩ := hO112.int (hO112.fix 48 (by decide) rfl)
                  refine ur_aldV rfl hc116 hn118 (by omega) (fun x120 hx121 => ?_)
                  refine ur_ldI rfl rfl ?_
                  refine ur_if1t rfl (by decide) ?_
                  refine ur_push rfl ?_
                  refine ur_binV rfl (fun x122 e123 => ?_)
                  have z124 := any_r x120
                  have t125 := ti_add e123 (by omega) (by omega)
                  refine ur_astV (W := [222, 223, 21212]) (m := 242) rfl hO112 hc116 (by decide) hn118 (by omega) (any_r _) (Or.inl rfl) (fun h128 hO128 hu128 d126 hc127 => ?_)
                  refine ur_incV (fun z => [some (.inr (.inr (some 41))), some (.inr (.inr (some a1))), some (.inr (.inr (some a2))), some (.inl a3), some (.inl x24), some (.inl x57), some (.inl x62), some (.inl z), some (.inl x85), some (.inl 0), some (.inl 0)]) rfl rfl (fun _ => rfl) (fun x129 e130 => ?_)
                  have t131 := ti_add e130 (by omega) (by omega)
                  refine ur_go rfl ?_
                  have z132 := any_r x129
                  exact ih75 x129 _ _ _ _ hO128 (hu76.tr (hu112.tr hu128)) (by omega) (by omega)
                · have t133 := wi_to c91
                  refine ur_ldA rfl rfl ?_
                  obtain ⟨f135, f136, hc134, k137⟩ := ok_41 hO76
                  refine ur_get rfl hc134 rfl ?_
                  refine ur_ldA rfl rfl ?_
                  refine ur_ldA rfl rfl ?_
                  refine ur_get rfl (hu76.ko (n := 13) hc33 rfl (wid_w g49) (by decide)) rfl ?_
                  refine ur_ldI rfl rfl ?_
                  refine ur_push rfl ?_
                  refine ur_ldI rfl rfl ?_
                  obtain ⟨f139, hc138, k140⟩ := ok_8 hO76
                  refine ur_inl rfl (rcv_of hc138) (Nat.le_of_ble_eq_true rfl) (Nat.le_of_ble_eq_true rfl) (sf_X5_seenOn hO76 g21 (hu76.tm t2 (by decide)) _ (by show 0 ≤ f36.toInt ∧ f36.toInt ≤ 8; omega) _ (by show -60 ≤ a3.toInt ∧ a3.toInt ≤ 60; omega) _ _ (fun w141 h143 hr142 hO143 hv143 => ?_))
                  have hu143 := hv143
                  obtain ⟨b144, rfl⟩ := hr142
                  show uRun _ (uCall Mt _) _ 146 (_, [(.inl (bi b144))], _, _, _)
                  refine ur_eqB rfl (fun c145 => ?_) (fun c145 => ?_)
                  · refine ur_push rfl ?_
                    refine ur_svIk [some (.inr (.inr (some 41))), some (.inr (.inr (some a1))), some (.inr (.inr (some a2))), some (.inl a3), some (.inl x24), some (.inl x57), some (.inl x62), some (.inl x69), some (.inl x85), some (.inl 0), u72] rfl rfl ?_
                    refine ur_ldI rfl rfl ?_
                    refine ur_if1t rfl (by decide) ?_
                    refine ur_push rfl ?_
                    refine ur_svIk [some (.inr (.inr (some 41))), some (.inr (.inr (some a1))), some (.inr (.inr (some a2))), some (.inl a3), some (.inl x24), some (.inl x57), some (.inl x62), some (.inl x69), some (.inl x85), some (.inl 0), some (.inl 0)] rfl rfl ?_
                    refine ur_ldA rfl rfl ?_
                    obtain ⟨f147, f148, hc146, k149⟩ := ok_41 hO143
                    refine ur_get rfl hc146 rfl ?_
                    refine ur_ldI rfl rfl ?_
                    refine ur_push rfl ?_
                    refine ur_binV rfl (fun x150 e151 => ?_)
                    have t152 := ti_add e151 (by omega) (by omega)
                    refine ur_ldA rfl rfl ?_
                    refine ur_get rfl hc146 rfl ?_
                    refine ur_ldI rfl rfl ?_
                    obtain ⟨xs154, hc153, hn155, he156⟩ := hO143.int (hO143.fix 47 (by decide) rfl)
                    refine ur_aldV rfl hc153 hn155 (by omega) (fun x157 hx158 => ?_)
                    refine ur_ldI rfl rfl ?_
                    refine ur_if1t rfl (by decide) ?_
                    refine ur_push rfl ?_
                    refine ur_binV rfl (fun x159 e160 => ?_)
                    have z161 := any_r x157
                    have t162 := ti_add e160 (by omega) (by omega)
                    refine ur_astV (W := [222, 223, 21212]) (m := 242) rfl hO143 hc153 (by decide) hn155 (by omega) (any_r _) (Or.inl rfl) (fun h165 hO165 hu165 d163 hc164 => ?_)
                    refine ur_ldA rfl rfl ?_
                    refine ur_get rfl ((d163 _ (by decide)).trans hc146) rfl ?_
                    refine ur_ldI rfl rfl ?_
                    refine ur_push rfl ?_
                    refine ur_binV rfl (fun x166 e167 => ?_)
                    have t168 := ti_add e167 (by omega) (by omega)
                    refine ur_ldA rfl rfl ?_
                    refine ur_get rfl ((d163 _ (by decide)).trans hc146) rfl ?_
                    refine ur_ldI rfl rfl ?_
                    obtain ⟨xs170, hc169, hn171, he172⟩ := hO165.int (hO165.fix 48 (by decide) rfl)
                    refine ur_aldV rfl hc169 hn171 (by omega) (fun x173 hx174 => ?_)
                    refine ur_ldI rfl rfl ?_
                    refine ur_if1t rfl (by decide) ?_
                    refine ur_push rfl ?_
                    refine ur_binV rfl (fun x175 e176 => ?_)
                    have z177 := any_r x173
                    have t178 := ti_add e176 (by omega) (by omega)
                    refine ur_astV (W := [222, 223, 21212]) (m := 242) rfl hO165 hc169 (by decide) hn171 (by omega) (any_r _) (Or.inl rfl) (fun h181 hO181 hu181 d179 hc180 => ?_)
                    refine ur_incV (fun z => [some (.inr (.inr (some 41))), some (.inr (.inr (some a1))), some (.inr (.inr (some a2))), some (.inl a3), some (.inl x24), some (.inl x57), some (.inl x62), some (.inl z), some (.inl x85), some (.inl 0), some (.inl 0)]) rfl rfl (fun _ => rfl) (fun x182 e183 => ?_)
                    have t184 := ti_add e183 (by omega) (by omega)
                    refine ur_go rfl ?_
                    have z185 := any_r x182
                    exact ih75 x182 _ _ _ _ hO181 (hu76.tr (hu143.tr (hu165.tr hu181))) (by omega) (by omega)
                  · refine ur_push rfl ?_
                    refine ur_go rfl ?_
                    refine ur_svIk [some (.inr (.inr (some 41))), some (.inr (.inr (some a1))), some (.inr (.inr (some a2))), some (.inl a3), some (.inl x24), some (.inl x57), some (.inl x62), some (.inl x69), some (.inl x85), some (.inl 1), u72] rfl rfl ?_
                    refine ur_ldI rfl rfl ?_
                    refine ur_if1f rfl (by decide) ?_
                    refine ur_ldA rfl rfl ?_
                    obtain ⟨f187, f188, hc186, k189⟩ := ok_41 hO143
                    refine ur_get rfl hc186 rfl ?_
                    refine ur_ldA rfl rfl ?_
                    refine ur_ldA rfl rfl ?_
                    refine ur_ldI rfl rfl ?_
                    refine ur_ldI rfl rfl ?_
                    refine ur_binV rfl (fun x190 e191 => ?_)
                    have z192 := any_r x85
                    refine ur_ldI rfl rfl ?_
                    refine ur_inl rfl (rcv_of (hv143.ko (n := 5) hc138 rfl (wid_f (by decide)) (by decide))) (Nat.le_of_ble_eq_true rfl) (Nat.le_of_ble_eq_true rfl) (sf_X5_isAsSaid hO143 g49 (hu143.tm (hu76.tm t1 (by decide)) (by decide)) g21 (hu143.tm (hu76.tm t2 (by decide)) (by decide)) _ _ (fun w193 h195 hr194 hO195 hv195 => ?_))
                    have hu195 : un [222, 223, 21212] h143 h195 := hv195.mono (by decide)
                    obtain ⟨b196, rfl⟩ := hr194
                    show uRun _ (uCall Mt _) _ 177 (_, [(.inl (bi b196))], _, _, _)
                    refine ur_eqB rfl (fun c197 => ?_) (fun c197 => ?_)
                    · refine ur_push rfl ?_
                      refine ur_svIk [some (.inr (.inr (some 41))), some (.inr (.inr (some a1))), some (.inr (.inr (some a2))), some (.inl a3), some (.inl x24), some (.inl x57), some (.inl x62), some (.inl x69), some (.inl x85), some (.inl 1), some (.inl 0)] rfl rfl ?_
                      refine ur_ldA rfl rfl ?_
                      obtain ⟨f199, f200, hc198, k201⟩ := ok_41 hO195
                      refine ur_get rfl hc198 rfl ?_
                      refine ur_ldI rfl rfl ?_
                      refine ur_push rfl ?_
                      refine ur_binV rfl (fun x202 e203 => ?_)
                      have t204 := ti_add e203 (by omega) (by omega)
                      refine ur_ldA rfl rfl ?_
                      refine ur_get rfl hc198 rfl ?_
                      refine ur_ldI rfl rfl ?_
                      obtain ⟨xs206, hc205, hn207, he208⟩ := hO195.int (hO195.fix 47 (by decide) rfl)
                      refine ur_aldV rfl hc205 hn207 (by omega) (fun x209 hx210 => ?_)
                      refine ur_ldI rfl rfl ?_
                      refine ur_if1t rfl (by decide) ?_
                      refine ur_push rfl ?_
                      refine ur_binV rfl (fun x211 e212 => ?_)
                      have z213 := any_r x209
                      have t214 := ti_add e212 (by omega) (by omega)
                      refine ur_astV (W := [222, 223, 21212]) (m := 242) rfl hO195 hc205 (by decide) hn207 (by omega) (any_r _) (Or.inl rfl) (fun h217 hO217 hu217 d215 hc216 => ?_)
                      refine ur_ldA rfl rfl ?_
                      refine ur_get rfl ((d215 _ (by decide)).trans hc198) rfl ?_
                      refine ur_ldI rfl rfl ?_
                      refine ur_push rfl ?_
                      refine ur_binV rfl (fun x218 e219 => ?_)
                      have t220 := ti_add e219 (by omega) (by omega)
                      refine ur_ldA rfl rfl ?_
                      refine ur_get rfl ((d215 _ (by decide)).trans hc198) rfl ?_
                      refine ur_ldI rfl rfl ?_
                      obtain ⟨xs222, hc221, hn223, he224⟩ := hO217.int (hO217.fix 48 (by decide) rfl)
                      refine ur_aldV rfl hc221 hn223 (by omega) (fun x225 hx226 => ?_)
                      refine ur_ldI rfl rfl ?_
                      refine ur_if1f rfl (by decide) ?_
                      refine ur_ldI rfl rfl ?_
                      refine ur_if1f rfl (by decide) ?_
                      refine ur_push rfl ?_
                      refine ur_go rfl ?_
                      refine ur_binV rfl (fun x227 e228 => ?_)
                      have z229 := any_r x225
                      refine ur_astV (W := [222, 223, 21212]) (m := 242) rfl hO217 hc221 (by decide) hn223 (by omega) (any_r _) (Or.inl rfl) (fun h232 hO232 hu232 d230 hc231 => ?_)
                      refine ur_incV (fun z => [some (.inr (.inr (some 41))), some (.inr (.inr (some a1))), some (.inr (.inr (some a2))), some (.inl a3), some (.inl x24), some (.inl x57), some (.inl x62), some (.inl z), some (.inl x85), some (.inl 1), some (.inl 0)]) rfl rfl (fun _ => rfl) (fun x233 e234 => ?_)
                      have t235 := ti_add e234 (by omega) (by omega)
                      refine ur_go rfl ?_
                      have z236 := any_r x233
                      exact ih75 x233 _ _ _ _ hO232 (hu76.tr (hu143.tr (hu195.tr (hu217.tr hu232)))) (by omega) (by omega)
                    · refine ur_push rfl ?_
                      refine ur_go rfl ?_
                      refine ur_svIk [some (.inr (.inr (some 41))), some (.inr (.inr (some a1))), some (.inr (.inr (some a2))), some (.inl a3), some (.inl x24), some (.inl x57), some (.inl x62), some (.inl x69), some (.inl x85), some (.inl 1), some (.inl 1)] rfl rfl ?_
                      refine ur_ldA rfl rfl ?_
                      obtain ⟨f238, f239, hc237, k240⟩ := ok_41 hO195
                      refine ur_get rfl hc237 rfl ?_
                      refine ur_ldI rfl rfl ?_
                      refine ur_push rfl ?_
                      refine ur_binV rfl (fun x241 e242 => ?_)
                      have t243 := ti_add e242 (by omega) (by omega)
                      refine ur_ldA rfl rfl ?_
                      refine ur_get rfl hc237 rfl ?_
                      refine ur_ldI rfl rfl ?_
                      obtain ⟨xs245, hc244, hn246, he247⟩ := hO195.int (hO195.fix 47 (by decide) rfl)
                      refine ur_aldV rfl hc244 hn246 (by omega) (fun x248 hx249 => ?_)
                      refine ur_ldI rfl rfl ?_
                      refine ur_if1f rfl (by decide) ?_
                      refine ur_push rfl ?_
                      refine ur_go rfl ?_
                      refine ur_binV rfl (fun x250 e251 => ?_)
                      have z252 := any_r x248
                      refine ur_astV (W := [222, 223, 21212]) (m := 242) rfl hO195 hc244 (by decide) hn246 (by omega) (any_r _) (Or.inl rfl) (fun h255 hO255 hu255 d253 hc254 => ?_)
                      refine ur_ldA rfl rfl ?_
                      refine ur_get rfl ((d253 _ (by decide)).trans hc237) rfl ?_
                      refine ur_ldI rfl rfl ?_
                      refine ur_push rfl ?_
                      refine ur_binV rfl (fun x256 e257 => ?_)
                      have t258 := ti_add e257 (by omega) (by omega)
                      refine ur_ldA rfl rfl ?_
                      refine ur_get rfl ((d253 _ (by decide)).trans hc237) rfl ?_
                      refine ur_ldI rfl rfl ?_
                      obtain ⟨xs260, hc259, hn261, he262⟩ := hO255.int (hO255.fix 48 (by decide) rfl)
                      refine ur_aldV rfl hc259 hn261 (by omega) (fun x263 hx264 => ?_)
                      refine ur_ldI rfl rfl ?_
                      refine ur_if1f rfl (by decide) ?_
                      refine ur_ldI rfl rfl ?_
                      refine ur_if1t rfl (by decide) ?_
                      refine ur_push rfl ?_
                      refine ur_binV rfl (fun x265 e266 => ?_)
                      have z267 := any_r x263
                      have t268 := ti_add e266 (by omega) (by omega)
                      refine ur_astV (W := [222, 223, 21212]) (m := 242) rfl hO255 hc259 (by decide) hn261 (by omega) (any_r _) (Or.inl rfl) (fun h271 hO271 hu271 d269 hc270 => ?_)
                      refine ur_incV (fun z => [some (.inr (.inr (some 41))), some (.inr (.inr (some a1))), some (.inr (.inr (some a2))), some (.inl a3), some (.inl x24), some (.inl x57), some (.inl x62), some (.inl z), some (.inl x85), some (.inl 1), some (.inl 1)]) rfl rfl (fun _ => rfl) (fun x272 e273 => ?_)
                      have t274 := ti_add e273 (by omega) (by omega)
                      refine ur_go rfl ?_
                      have z275 := any_r x272
                      exact ih75 x272 _ _ _ _ hO271 (hu76.tr (hu143.tr (hu195.tr (hu255.tr hu271)))) (by omega) (by omega)
          exact L73 _ 0 (none) (none) (none) _ hO0 un.rf (by omega) (Nat.lt_succ_self _)
        · have t276 := le_no c67
          refine ur_push rfl ?_
          exact ur_ret rfl rfl (hQ _ _ ⟨false, rfl⟩ hO0 un.rf)
      · have t277 := le_no c52
        refine ur_ldI rfl rfl ?_
        refine ur_ldA rfl rfl ?_
        refine ur_ldI rfl rfl ?_
        refine ur_push rfl ?_
        refine ur_inl rfl (rcv_of hc33) (Nat.le_of_ble_eq_true rfl) (Nat.le_of_ble_eq_true rfl) (sf_X10_movedFrom hO0 g49 t1 _ _ (fun w278 hr279 => ?_))
        obtain ⟨x280, rfl, t281⟩ := hr279
        show uRun _ (uCall Mt _) _ 37 (_, [(.inl x280), (.inl x25)], _, _, _)
        refine ur_minV rfl (by show ¬ 9 ≤ 2; decide) (fun x282 t283 e284 => ?_)
        refine ur_svIk [some (.inr (.inr (some 41))), some (.inr (.inr (some a1))), some (.inr (.inr (some a2))), some (.inl a3), some (.inl x24), some (.inl x282), some (.inl x26), some (.inl x27), none, none, none] rfl rfl ?_
        refine ur_ldI rfl rfl ?_
        refine ur_ldA rfl rfl ?_
        refine ur_ldI rfl rfl ?_
        refine ur_push rfl ?_
        refine ur_inl rfl (rcv_of hc33) (Nat.le_of_ble_eq_true rfl) (Nat.le_of_ble_eq_true rfl) (sf_X10_movedTo hO0 g49 t1 _ _ (fun w285 hr286 => ?_))
        obtain ⟨x287, rfl, t288⟩ := hr286
        show uRun _ (uCall Mt _) _ 53 (_, [(.inl x287), (.inl x26)], _, _, _)
        refine ur_maxV rfl (by show ¬ 9 ≤ 2; decide) (fun x289 t290 e291 => ?_)
        refine ur_svIk [some (.inr (.inr (some 41))), some (.inr (.inr (some a1))), some (.inr (.inr (some a2))), some (.inl a3), some (.inl x24), some (.inl x282), some (.inl x289), some (.inl x27), none, none, none] rfl rfl ?_
        refine ur_incV (fun z => [some (.inr (.inr (some 41))), some (.inr (.inr (some a1))), some (.inr (.inr (some a2))), some (.inl a3), some (.inl x24), some (.inl x282), some (.inl x289), some (.inl z), none, none, none]) rfl rfl (fun _ => rfl) (fun x292 e293 => ?_)
        have t294 := ti_add e293 (by omega) (by omega)
        refine ur_go rfl ?_
        have z295 := any_r x292
        exact ih30 x282 x289 x292 (by omega) (by omega)
  exact L28 _ 999999 0 0 (by omega) (Nat.lt_succ_self _)

set_option maxRecDepth 20000 in
set_option maxHeartbeats 4000000 in
theorem sf_X7_countMovesOf {d kc ks : Nat} {h0 : aH} {Q : Option aV → aH → Prop} (hO0 : OK h0) {a1 : Nat} (g1 : 114 ≤ a1) (t1 : tg h0 a1 = (110, 13)) {a2 : Nat} (g2 : 114 ≤ a2) (t2 : tg h0 a2 = (102, 14)) (hQ : ∀ r h', (r = none) → OK h' → un [222, 223, 21212] h0 h' → Q r h') : uCall Mt (d + 7) 83 [(.inr (.inr (some 41))), (.inr (.inr (some a1))), (.inr (.inr (some a2)))] h0 kc ks Q := by
  have l_0 : ((0) : Int32).toInt = 0 := by decide
  have l_1 : ((1) : Int32).toInt = 1 := by decide
  have l_81 : ((81) : Int32).toInt = 81 := by decide
  refine uc_ink [some (.inr (.inr (some 41))), some (.inr (.inr (some a1))), some (.inr (.inr (some a2))), none, none] mt_83 (Nat.le_of_ble_eq_true rfl) rfl ?_
  refine ur_push rfl ?_
  refine ur_svIk [some (.inr (.inr (some 41))), some (.inr (.inr (some a1))), some (.inr (.inr (some a2))), some (.inl 0), none] rfl rfl ?_
  have L2 : ∀ (m3 : Nat) (x1 : Int32) (h5 : aH) , OK h5 → un [222, 223, 21212] h0 h5 → ((0 ≤ x1.toInt ∧ x1.toInt ≤ 2147483647)) → ((2147483648 - x1.toInt).toNat) < m3 → uRun oX7_countMovesOf (uCall Mt (d + 6)) Q 2 ([some (.inr (.inr (some 41))), some (.inr (.inr (some a1))), some (.inr (.inr (some a2))), some (.inl x1), none], [], h5, kc, ks) := by
    intro m3
    induction m3 with
    | zero => intro x1 h5 hO5 hu5 iv6 mm7; omega
    | succ m3 ih4 =>
      intro x1 h5 hO5 hu5 iv6 mm7
      refine ur_ldI rfl rfl ?_
      refine ur_push rfl ?_
      refine ur_if2 rfl (fun c8 => ?_) (fun c8 => ?_)
      · have t9 := le_to c8
        refine ur_ldA rfl rfl ?_
        obtain ⟨g30, f11, f12, f13, f14, f15, f16, f17, f18, f19, f20, q21, q22, o23, q24, hc10, k25, k26, k27, k28, k29⟩ := hO5.comet (hu5.tm t2 (by decide))
        refine ur_get rfl hc10 rfl ?_
        refine ur_svIk [some (.inr (.inr (some 41))), some (.inr (.inr (some a1))), some (.inr (.inr (some a2))), some (.inl f19), none] rfl rfl ?_
        have L33 : ∀ (m34 : Nat) (x31 : Int32) (u32 : Option aV) (h36 : aH) , OK h36 → un [222, 223, 21212] h5 h36 → ((-60 ≤ x31.toInt ∧ x31.toInt ≤ 2147483647)) → ((2147483648 - x31.toInt).toNat) < m34 → uRun oX7_countMovesOf (uCall Mt (d + 6)) Q 26 ([some (.inr (.inr (some 41))), some (.inr (.inr (some a1))), some (.inr (.inr (some a2))), some (.inl x31), u32], [], h36, kc, ks) := by
          intro m34
          induction m34 with
          | zero => intro x31 u32 h36 hO36 hu36 iv37 mm38; omega
          | succ m34 ih35 =>
            intro x31 u32 h36 hO36 hu36 iv37 mm38
            refine ur_ldI rfl rfl ?_
            refine ur_ldA rfl rfl ?_
            obtain ⟨g59, f40, f41, f42, f43, f44, f45, f46, f47, f48, f49, q50, q51, o52, q53, hc39, k54, k55, k56, k57, k58⟩ := hO36.comet (hu36.tm (hu5.tm t2 (by decide)) (by decide))
            refine ur_get rfl hc39 rfl ?_
            have z60 := any_r x31
            have z61 := any_r f49
            refine ur_if2 rfl (fun c62 => ?_) (fun c62 => ?_)
            · have t63 := lt_to c62
              refine ur_push rfl ?_
              refine ur_svIk [some (.inr (.inr (some 41))), some (.inr (.inr (some a1))), some (.inr (.inr (some a2))), some (.inl 0), u32] rfl rfl ?_
              have L65 : ∀ (m66 : Nat) (x64 : Int32) (h68 : aH) , OK h68 → un [222, 223, 21212] h36 h68 → ((0 ≤ x64.toInt ∧ x64.toInt ≤ 2147483647)) → ((2147483648 - x64.toInt).toNat) < m66 → uRun oX7_countMovesOf (uCall Mt (d + 6)) Q 107 ([some (.inr (.inr (some 41))), some (.inr (.inr (some a1))), some (.inr (.inr (some a2))), some (.inl x64), u32], [], h68, kc, ks) := by
                intro m66
                induction m66 with
                | zero => intro x64 h68 hO68 hu68 iv69 mm70; omega
                | succ m66 ih67 =>
                  intro x64 h68 hO68 hu68 iv69 mm70
                  refine ur_ldI rfl rfl ?_
                  refine ur_push rfl ?_
                  refine ur_if2 rfl (fun c71 => ?_) (fun c71 => ?_)
                  · have t72 := le_to c71
                    exact ur_ret0 rfl (hQ _ _ rfl hO68 (hu5.tr (hu36.tr hu68)))
                  · have t73 := le_no c71
                    refine ur_ldA rfl rfl ?_
                    obtain ⟨f75, f76, hc74, k77⟩ := ok_41 hO68
                    refine ur_get rfl hc74 rfl ?_
                    refine ur_ldI rfl rfl ?_
                    obtain ⟨xs79, hc78, hn80, he81⟩ := hO68.boo (hO68.fix 49 (by decide) rfl)
                    refine ur_aldV rfl hc78 hn80 (by omega) (fun x82 hx83 => ?_)
                    refine ur_if1 rfl (fun c84 => ?_) (fun c84 => ?_)
                    · have t85 := eq_to c84
                      refine ur_incV (fun z => [some (.inr (.inr (some 41))), some (.inr (.inr (some a1))), some (.inr (.inr (some a2))), some (.inl z), u32]) rfl rfl (fun _ => rfl) (fun x86 e87 => ?_)
                      have z88 := any_r x64
                      have t89 := ti_add e87 (by omega) (by omega)
                      refine ur_go rfl ?_
                      have z90 := any_r x86
                      exact ih67 x86 _ hO68 hu68 (by omega) (by omega)
                    · have t91 := eq_no c84
                      refine ur_ldA rfl rfl ?_
                      refine ur_get rfl hc74 rfl ?_
                      refine ur_ldI rfl rfl ?_
                      refine ur_dup2 rfl rfl rfl ?_
                      obtain ⟨xs93, hc92, hn94, he95⟩ := hO68.int (hO68.fix 50 (by decide) rfl)
                      refine ur_aldV rfl hc92 hn94 (by omega) (fun x96 hx97 => ?_)
                      refine ur_push rfl ?_
                      refine ur_binV rfl (fun x98 e99 => ?_)
                      have z100 := any_r x96
                      refine ur_astV (W := [222, 223, 21212]) (m := 81) rfl hO68 hc92 (by decide) hn94 (by omega) (any_r _) (Or.inl rfl) (fun h103 hO103 hu103 d101 hc102 => ?_)
                      refine ur_incV (fun z => [some (.inr (.inr (some 41))), some (.inr (.inr (some a1))), some (.inr (.inr (some a2))), some (.inl z), u32]) rfl rfl (fun _ => rfl) (fun x104 e105 => ?_)
                      have z106 := any_r x64
                      have t107 := ti_add e105 (by omega) (by omega)
                      refine ur_go rfl ?_
                      have z108 := any_r x104
                      exact ih67 x104 _ hO103 (hu68.tr hu103) (by omega) (by omega)
              exact L65 _ 0 _ hO36 un.rf (by omega) (Nat.lt_succ_self _)
            · have t109 := lt_no c62
              refine ur_ldA rfl rfl ?_
              refine ur_ldA rfl rfl ?_
              refine ur_ldA rfl rfl ?_
              refine ur_ldI rfl rfl ?_
              obtain ⟨f111, f112, hc110, k113⟩ := ok_41 hO36
              refine ur_inl rfl (rcv_of hc110) (Nat.le_of_ble_eq_true rfl) (Nat.le_of_ble_eq_true rfl) (sf_X7_countDays hO36 g1 (hu36.tm (hu5.tm t1 (by decide)) (by decide)) g59 (hu36.tm (hu5.tm t2 (by decide)) (by decide)) _ (by show -60 ≤ x31.toInt ∧ x31.toInt ≤ 60; omega) (fun w114 h116 hr115 hO116 hv116 => ?_))
              have hu116 := hv116
              obtain ⟨b117, rfl⟩ := hr115
              show uRun _ (uCall Mt _) _ 41 (_, [(.inl (bi b117))], _, _, _)
              refine ur_neB rfl (fun c118 => ?_) (fun c118 => ?_)
              · refine ur_push rfl ?_
                refine ur_svIk [some (.inr (.inr (some 41))), some (.inr (.inr (some a1))), some (.inr (.inr (some a2))), some (.inl x31), some (.inl 0)] rfl rfl ?_
                have L120 : ∀ (m121 : Nat) (x119 : Int32) (h123 : aH) , OK h123 → un [222, 223, 21212] h116 h123 → ((0 ≤ x119.toInt ∧ x119.toInt ≤ 2147483647)) → ((2147483648 - x119.toInt).toNat) < m121 → uRun oX7_countMovesOf (uCall Mt (d + 6)) Q 50 ([some (.inr (.inr (some 41))), some (.inr (.inr (some a1))), some (.inr (.inr (some a2))), some (.inl x31), some (.inl x119)], [], h123, kc, ks) := by
                  intro m121
                  induction m121 with
                  | zero => intro x119 h123 hO123 hu123 iv124 mm125; omega
                  | succ m121 ih122 =>
                    intro x119 h123 hO123 hu123 iv124 mm125
                    refine ur_ldI rfl rfl ?_
                    refine ur_push rfl ?_
                    refine ur_if2 rfl (fun c126 => ?_) (fun c126 => ?_)
                    · have t127 := le_to c126
                      refine ur_incV (fun z => [some (.inr (.inr (some 41))), some (.inr (.inr (some a1))), some (.inr (.inr (some a2))), some (.inl z), some (.inl x119)]) rfl rfl (fun _ => rfl) (fun x128 e129 => ?_)
                      have t130 := ti_add e129 (by omega) (by omega)
                      refine ur_go rfl ?_
                      have z131 := any_r x128
                      exact ih35 x128 _ _ hO123 (hu36.tr (hu116.tr hu123)) (by omega) (by omega)
                    · have t132 := le_no c126
                      refine ur_ldA rfl rfl ?_
                      obtain ⟨f134, f135, hc133, k136⟩ := ok_41 hO123
                      refine ur_get rfl hc133 rfl ?_
                      refine ur_ldI rfl rfl ?_
                      obtain ⟨xs138, hc137, hn139, he140⟩ := hO123.boo (hO123.fix 49 (by decide) rfl)
                      refine ur_aldV rfl hc137 hn139 (by omega) (fun x141 hx142 => ?_)
                      refine ur_if1 rfl (fun c143 => ?_) (fun c143 => ?_)
                      · have t144 := ne_to c143
                        refine ur_incV (fun z => [some (.inr (.inr (some 41))), some (.inr (.inr (some a1))), some (.inr (.inr (some a2))), some (.inl x31), some (.inl z)]) rfl rfl (fun _ => rfl) (fun x145 e146 => ?_)
                        have z147 := any_r x119
                        have t148 := ti_add e146 (by omega) (by omega)
                        refine ur_go rfl ?_
                        have z149 := any_r x145
                        exact ih122 x145 _ hO123 hu123 (by omega) (by omega)
                      · have t150 := ne_no c143
                        refine ur_ldA rfl rfl ?_
                        refine ur_ldA rfl rfl ?_
                        refine ur_ldA rfl rfl ?_
                        refine ur_ldI rfl rfl ?_
                        obtain ⟨g171, f152, f153, f154, f155, f156, f157, f158, f159, f160, f161, q162, q163, o164, q165, hc151, k166, k167, k168, k169, k170⟩ := hO123.comet (hu123.tm (hu116.tm (hu36.tm (hu5.tm t2 (by decide)) (by decide)) (by decide)) (by decide))
                        refine ur_inl rfl (rcv_of hc151) (Nat.le_of_ble_eq_true rfl) (Nat.le_of_ble_eq_true rfl) (sf_X2_passOf hO123 g171 (hu123.tm (hu116.tm (hu36.tm (hu5.tm t2 (by decide)) (by decide)) (by decide)) (by decide)) _ (fun w172 hr173 => ?_))
                        obtain ⟨x174, rfl⟩ := hr173
                        show uRun _ (uCall Mt _) _ 74 (_, [(.inl x174), (.inr (.inr (some a1))), (.inr (.inr (some 41)))], _, _, _)
                        refine ur_ldI rfl rfl ?_
                        refine ur_inl rfl rfl (Nat.le_of_ble_eq_true rfl) (Nat.le_of_ble_eq_true rfl) (sf_X7_moveOf _ (fun w175 hr176 => ?_))
                        obtain ⟨x177, rfl⟩ := hr176
                        show uRun _ (uCall Mt _) _ 79 (_, [(.inl x177), (.inl x174), (.inr (.inr (some a1))), (.inr (.inr (some 41)))], _, _, _)
                        refine ur_inl rfl (rcv_of hc133) (Nat.le_of_ble_eq_true rfl) (Nat.le_of_ble_eq_true rfl) (sf_X7_isFitMoved hO123 g1 (hu123.tm (hu116.tm (hu36.tm (hu5.tm t1 (by decide)) (by decide)) (by decide)) (by decide)) _ _ (fun w178 hr179 => ?_))
                        obtain ⟨b180, rfl⟩ := hr179
                        show uRun _ (uCall Mt _) _ 82 (_, [(.inl (bi b180))], _, _, _)
                        refine ur_eqB rfl (fun c181 => ?_) (fun c181 => ?_)
                        · refine ur_incV (fun z => [some (.inr (.inr (some 41))), some (.inr (.inr (some a1))), some (.inr (.inr (some a2))), some (.inl x31), some (.inl z)]) rfl rfl (fun _ => rfl) (fun x182 e183 => ?_)
                          have z184 := any_r x119
                          have t185 := ti_add e183 (by omega) (by omega)
                          refine ur_go rfl ?_
                          have z186 := any_r x182
                          exact ih122 x182 _ hO123 hu123 (by omega) (by omega)
                        · refine ur_ldA rfl rfl ?_
                          refine ur_get rfl hc133 rfl ?_
                          refine ur_ldI rfl rfl ?_
                          refine ur_push rfl ?_
                          refine ur_astV (W := [222, 223, 21212]) (m := 81) rfl hO123 hc137 (by decide) hn139 (by omega) (any_r _) (Or.inl rfl) (fun h189 hO189 hu189 d187 hc188 => ?_)
                          refine ur_incV (fun z => [some (.inr (.inr (some 41))), some (.inr (.inr (some a1))), some (.inr (.inr (some a2))), some (.inl x31), some (.inl z)]) rfl rfl (fun _ => rfl) (fun x190 e191 => ?_)
                          have z192 := any_r x119
                          have t193 := ti_add e191 (by omega) (by omega)
                          refine ur_go rfl ?_
                          have z194 := any_r x190
                          exact ih122 x190 _ hO189 (hu123.tr hu189) (by omega) (by omega)
                exact L120 _ 0 _ hO116 un.rf (by omega) (Nat.lt_succ_self _)
              · refine ur_go rfl ?_
                refine ur_incV (fun z => [some (.inr (.inr (some 41))), some (.inr (.inr (some a1))), some (.inr (.inr (some a2))), some (.inl z), u32]) rfl rfl (fun _ => rfl) (fun x195 e196 => ?_)
                have t197 := ti_add e196 (by omega) (by omega)
                refine ur_go rfl ?_
                have z198 := any_r x195
                exact ih35 x195 _ _ hO116 (hu36.tr hu116) (by omega) (by omega)
        have z199 := any_r f19
        exact L33 _ f19 (none) _ hO5 un.rf (by omega) (Nat.lt_succ_self _)
      · have t200 := le_no c8
        refine ur_ldA rfl rfl ?_
        obtain ⟨f202, f203, hc201, k204⟩ := ok_41 hO5
        refine ur_get rfl hc201 rfl ?_
        refine ur_ldI rfl rfl ?_
        refine ur_push rfl ?_
        obtain ⟨xs206, hc205, hn207, he208⟩ := hO5.boo (hO5.fix 49 (by decide) rfl)
        refine ur_astV (W := [222, 223, 21212]) (m := 81) rfl hO5 hc205 (by decide) hn207 (by omega) (any_r _) (Or.inl rfl) (fun h211 hO211 hu211 d209 hc210 => ?_)
        refine ur_incV (fun z => [some (.inr (.inr (some 41))), some (.inr (.inr (some a1))), some (.inr (.inr (some a2))), some (.inl z), none]) rfl rfl (fun _ => rfl) (fun x212 e213 => ?_)
        have z214 := any_r x1
        have t215 := ti_add e213 (by omega) (by omega)
        refine ur_go rfl ?_
        have z216 := any_r x212
        exact ih4 x212 _ hO211 (hu5.tr hu211) (by omega) (by omega)
  exact L2 _ 0 _ hO0 un.rf (by omega) (Nat.lt_succ_self _)

set_option maxRecDepth 20000 in
set_option maxHeartbeats 4000000 in
theorem sf_X7_isSeenNear {d kc ks : Nat} {h0 : aH} {Q : Option aV → aH → Prop} (hO0 : OK h0) {a1 : Nat} (g1 : 114 ≤ a1) (t1 : tg h0 a1 = (102, 14)) (a2 : Int32) (b2 : 0 ≤ a2.toInt ∧ a2.toInt ≤ 8) (a3 : Int32) (hQ : ∀ r h', (∃ q, r = some (.inl (bi q))) → OK h' → un [222, 223, 21212] h0 h' → Q r h') : uCall Mt (d + 5) 90 [(.inr (.inr (some 41))), (.inr (.inr (some a1))), (.inl a2), (.inl a3)] h0 kc ks Q := by
  have l_0 : ((0) : Int32).toInt = 0 := by decide
  have l_1 : ((1) : Int32).toInt = 1 := by decide
  refine uc_ink [some (.inr (.inr (some 41))), some (.inr (.inr (some a1))), some (.inl a2), some (.inl a3), none] mt_90 (Nat.le_of_ble_eq_true rfl) rfl ?_
  refine ur_push rfl ?_
  refine ur_svIk [some (.inr (.inr (some 41))), some (.inr (.inr (some a1))), some (.inl a2), some (.inl a3), some (.inl 0)] rfl rfl ?_
  have L2 : ∀ (m3 : Nat) (x1 : Int32) (h5 : aH) , OK h5 → un [222, 223, 21212] h0 h5 → ((0 ≤ x1.toInt ∧ x1.toInt ≤ 2147483647)) → ((2147483648 - x1.toInt).toNat) < m3 → uRun oX7_isSeenNear (uCall Mt (d + 4)) Q 3 ([some (.inr (.inr (some 41))), some (.inr (.inr (some a1))), some (.inl a2), some (.inl a3), some (.inl x1)], [], h5, kc, ks) := by
    intro m3
    induction m3 with
    | zero => intro x1 h5 hO5 hu5 iv6 mm7; omega
    | succ m3 ih4 =>
      intro x1 h5 hO5 hu5 iv6 mm7
      refine ur_ldI rfl rfl ?_
      refine ur_ldA rfl rfl ?_
      obtain ⟨f9, f10, hc8, k11⟩ := ok_41 hO5
      refine ur_get rfl hc8 rfl ?_
      have z12 := any_r x1
      have z13 := any_r f10
      refine ur_if2 rfl (fun c14 => ?_) (fun c14 => ?_)
      · have t15 := le_to c14
        refine ur_push rfl ?_
        exact ur_ret rfl rfl (hQ _ _ ⟨false, rfl⟩ hO5 hu5)
      · have t16 := le_no c14
        refine ur_ldA rfl rfl ?_
        refine ur_get rfl hc8 rfl ?_
        refine ur_ldA rfl rfl ?_
        refine ur_ldI rfl rfl ?_
        refine ur_ldA rfl rfl ?_
        refine ur_get rfl hc8 rfl ?_
        refine ur_ldI rfl rfl ?_
        obtain ⟨xs18, hc17, hn19, he20⟩ := hO5.int (hO5.fix 51 (by decide) rfl)
        refine ur_aldV rfl hc17 hn19 (by omega) (fun x21 hx22 => ?_)
        have t23 : -60 ≤ x21.toInt ∧ x21.toInt ≤ 60 := he20 _ _ hx22
        refine ur_push rfl ?_
        refine ur_ldI rfl rfl ?_
        obtain ⟨f25, hc24, k26⟩ := ok_8 hO5
        refine ur_inl rfl (rcv_of hc24) (Nat.le_of_ble_eq_true rfl) (Nat.le_of_ble_eq_true rfl) (sf_X5_seenOn hO5 g1 (hu5.tm t1 (by decide)) _ (by show 0 ≤ a2.toInt ∧ a2.toInt ≤ 8; omega) _ (by show -60 ≤ x21.toInt ∧ x21.toInt ≤ 60; omega) _ _ (fun w27 h29 hr28 hO29 hv29 => ?_))
        have hu29 := hv29
        obtain ⟨b30, rfl⟩ := hr28
        show uRun _ (uCall Mt _) _ 30 (_, [(.inl (bi b30))], _, _, _)
        refine ur_eqB rfl (fun c31 => ?_) (fun c31 => ?_)
        · refine ur_incV (fun z => [some (.inr (.inr (some 41))), some (.inr (.inr (some a1))), some (.inl a2), some (.inl a3), some (.inl z)]) rfl rfl (fun _ => rfl) (fun x32 e33 => ?_)
          have t34 := ti_add e33 (by omega) (by omega)
          refine ur_go rfl ?_
          have z35 := any_r x32
          exact ih4 x32 _ hO29 (hu5.tr hu29) (by omega) (by omega)
        · refine ur_push rfl ?_
          exact ur_ret rfl rfl (hQ _ _ ⟨true, rfl⟩ hO29 (hu5.tr hu29))
  exact L2 _ 0 _ hO0 un.rf (by omega) (Nat.lt_succ_self _)

set_option maxRecDepth 20000 in
set_option maxHeartbeats 4000000 in
theorem sf_X7_firstOfOneAlone {d kc ks : Nat} {h0 : aH} {Q : Option aV → aH → Prop} (hO0 : OK h0) {a1 : Nat} (g1 : 114 ≤ a1) (t1 : tg h0 a1 = (102, 14)) {a2 : Nat} (g2 : 114 ≤ a2) (t2 : tg h0 a2 = (102, 14)) (a3 : Int32) (b3 : -60 ≤ a3.toInt ∧ a3.toInt ≤ 60) (a4 : Int32) (b4 : 0 ≤ a4.toInt ∧ a4.toInt ≤ 8) (a5 : Int32) (a6 : Int32) (b6 : -2147483648 ≤ a6.toInt ∧ a6.toInt ≤ 999999) (hQ : ∀ r h', (∃ x, r = some (.inl x)) → OK h' → un [222, 223, 21212] h0 h' → Q r h') : uCall Mt (d + 6) 89 [(.inr (.inr (some 41))), (.inr (.inr (some a1))), (.inr (.inr (some a2))), (.inl a3), (.inl a4), (.inl a5), (.inl a6)] h0 kc ks Q := by
  have l_m1 : ((-1) : Int32).toInt = -1 := by decide
  have l_0 : ((0) : Int32).toInt = 0 := by decide
  have l_1 : ((1) : Int32).toInt = 1 := by decide
  refine uc_ink [some (.inr (.inr (some 41))), some (.inr (.inr (some a1))), some (.inr (.inr (some a2))), some (.inl a3), some (.inl a4), some (.inl a5), some (.inl a6), none] mt_89 (Nat.le_of_ble_eq_true rfl) rfl ?_
  refine ur_ldI rfl rfl ?_
  refine ur_svIk [some (.inr (.inr (some 41))), some (.inr (.inr (some a1))), some (.inr (.inr (some a2))), some (.inl a3), some (.inl a4), some (.inl a5), some (.inl a6), some (.inl a5)] rfl rfl ?_
  have L2 : ∀ (m3 : Nat) (x1 : Int32) (h5 : aH) , OK h5 → un [222, 223, 21212] h0 h5 → ((-2147483648 ≤ x1.toInt ∧ x1.toInt ≤ 2147483647)) → ((2147483648 - x1.toInt).toNat) < m3 → uRun oX7_firstOfOneAlone (uCall Mt (d + 5)) Q 4 ([some (.inr (.inr (some 41))), some (.inr (.inr (some a1))), some (.inr (.inr (some a2))), some (.inl a3), some (.inl a4), some (.inl a5), some (.inl a6), some (.inl x1)], [], h5, kc, ks) := by
    intro m3
    induction m3 with
    | zero => intro x1 h5 hO5 hu5 iv6 mm7; omega
    | succ m3 ih4 =>
      intro x1 h5 hO5 hu5 iv6 mm7
      refine ur_ldI rfl rfl ?_
      refine ur_ldI rfl rfl ?_
      have z8 := any_r x1
      have z9 := any_r a6
      refine ur_if2 rfl (fun c10 => ?_) (fun c10 => ?_)
      · have t11 := lt_to c10
        refine ur_push rfl ?_
        exact ur_ret rfl rfl (hQ _ _ ⟨_, rfl⟩ hO5 hu5)
      · have t12 := lt_no c10
        refine ur_ldA rfl rfl ?_
        obtain ⟨f14, f15, hc13, k16⟩ := ok_41 hO5
        refine ur_get rfl hc13 rfl ?_
        refine ur_ldA rfl rfl ?_
        refine ur_ldI rfl rfl ?_
        refine ur_ldI rfl rfl ?_
        refine ur_push rfl ?_
        refine ur_ldI rfl rfl ?_
        obtain ⟨f18, hc17, k19⟩ := ok_8 hO5
        refine ur_inl rfl (rcv_of hc17) (Nat.le_of_ble_eq_true rfl) (Nat.le_of_ble_eq_true rfl) (sf_X5_seenOn hO5 g1 (hu5.tm t1 (by decide)) _ (by show 0 ≤ a4.toInt ∧ a4.toInt ≤ 8; omega) _ (by show -60 ≤ a3.toInt ∧ a3.toInt ≤ 60; omega) _ _ (fun w20 h22 hr21 hO22 hv22 => ?_))
        have hu22 := hv22
        obtain ⟨b23, rfl⟩ := hr21
        show uRun _ (uCall Mt _) _ 25 (_, [(.inl (bi b23))], _, _, _)
        refine ur_eqB rfl (fun c24 => ?_) (fun c24 => ?_)
        · refine ur_incV (fun z => [some (.inr (.inr (some 41))), some (.inr (.inr (some a1))), some (.inr (.inr (some a2))), some (.inl a3), some (.inl a4), some (.inl a5), some (.inl a6), some (.inl z)]) rfl rfl (fun _ => rfl) (fun x25 e26 => ?_)
          have t27 := ti_add e26 (by omega) (by omega)
          refine ur_go rfl ?_
          have z28 := any_r x25
          exact ih4 x25 _ hO22 (hu5.tr hu22) (by omega) (by omega)
        · refine ur_ldA rfl rfl ?_
          refine ur_ldA rfl rfl ?_
          refine ur_ldI rfl rfl ?_
          refine ur_ldI rfl rfl ?_
          obtain ⟨f30, f31, hc29, k32⟩ := ok_41 hO22
          refine ur_inl rfl (rcv_of hc29) (Nat.le_of_ble_eq_true rfl) (Nat.le_of_ble_eq_true rfl) (sf_X7_isSeenNear hO22 g2 (hu22.tm (hu5.tm t2 (by decide)) (by decide)) _ (by show 0 ≤ a4.toInt ∧ a4.toInt ≤ 8; omega) _ (fun w33 h35 hr34 hO35 hv35 => ?_))
          have hu35 := hv35
          obtain ⟨b36, rfl⟩ := hr34
          show uRun _ (uCall Mt _) _ 37 (_, [(.inl (bi b36))], _, _, _)
          refine ur_neB rfl (fun c37 => ?_) (fun c37 => ?_)
          · refine ur_incV (fun z => [some (.inr (.inr (some 41))), some (.inr (.inr (some a1))), some (.inr (.inr (some a2))), some (.inl a3), some (.inl a4), some (.inl a5), some (.inl a6), some (.inl z)]) rfl rfl (fun _ => rfl) (fun x38 e39 => ?_)
            have t40 := ti_add e39 (by omega) (by omega)
            refine ur_go rfl ?_
            have z41 := any_r x38
            exact ih4 x38 _ hO35 (hu5.tr (hu22.tr hu35)) (by omega) (by omega)
          · refine ur_ldI rfl rfl ?_
            exact ur_ret rfl rfl (hQ _ _ ⟨_, rfl⟩ hO35 (hu5.tr (hu22.tr hu35)))
  have z42 := any_r a5
  exact L2 _ a5 _ hO0 un.rf (by omega) (Nat.lt_succ_self _)

set_option maxRecDepth 20000 in
set_option maxHeartbeats 4000000 in
theorem sf_X7_nextToLookFor {d kc ks : Nat} {h0 : aH} {Q : Option aV → aH → Prop} (hO0 : OK h0) {a1 : Nat} (g1 : 114 ≤ a1) (t1 : tg h0 a1 = (102, 14)) {a2 : Nat} (g2 : 114 ≤ a2) (t2 : tg h0 a2 = (102, 14)) (hQ : ∀ r h', (∃ x, r = some (.inl x)) → OK h' → un [222, 223, 21212] h0 h' → Q r h') : uCall Mt (d + 7) 87 [(.inr (.inr (some 41))), (.inr (.inr (some a1))), (.inr (.inr (some a2)))] h0 kc ks Q := by
  have l_m1 : ((-1) : Int32).toInt = -1 := by decide
  have l_0 : ((0) : Int32).toInt = 0 := by decide
  have l_1 : ((1) : Int32).toInt = 1 := by decide
  have l_9 : ((9) : Int32).toInt = 9 := by decide
  have l_120 : ((120) : Int32).toInt = 120 := by decide
  refine uc_ink [some (.inr (.inr (some 41))), some (.inr (.inr (some a1))), some (.inr (.inr (some a2))), none, none, none, none, none, none, none, none] mt_87 (Nat.le_of_ble_eq_true rfl) rfl ?_
  refine ur_push rfl ?_
  refine ur_svIk [some (.inr (.inr (some 41))), some (.inr (.inr (some a1))), some (.inr (.inr (some a2))), some (.inl (-1)), none, none, none, none, none, none, none] rfl rfl ?_
  refine ur_ldA rfl rfl ?_
  obtain ⟨g21, f2, f3, f4, f5, f6, f7, f8, f9, f10, f11, q12, q13, o14, q15, hc1, k16, k17, k18, k19, k20⟩ := hO0.comet t1
  refine ur_get rfl hc1 rfl ?_
  refine ur_svIk [some (.inr (.inr (some 41))), some (.inr (.inr (some a1))), some (.inr (.inr (some a2))), some (.inl (-1)), some (.inl f10), none, none, none, none, none, none] rfl rfl ?_
  have L30 : ∀ (m31 : Nat) (x22 : Int32) (x23 : Int32) (u24 : Option aV) (u25 : Option aV) (u26 : Option aV) (u27 : Option aV) (u28 : Option aV) (u29 : Option aV) (h33 : aH) , OK h33 → un [222, 223, 21212] h0 h33 → ((-60 ≤ x23.toInt ∧ x23.toInt ≤ 2147483647)) → ((2147483648 - x23.toInt).toNat) < m31 → uRun oX7_nextToLookFor (uCall Mt (d + 6)) Q 8 ([some (.inr (.inr (some 41))), some (.inr (.inr (some a1))), some (.inr (.inr (some a2))), some (.inl x22), some (.inl x23), u24, u25, u26, u27, u28, u29], [], h33, kc, ks) := by
    intro m31
    induction m31 with
    | zero => intro x22 x23 u24 u25 u26 u27 u28 u29 h33 hO33 hu33 iv34 mm35; omega
    | succ m31 ih32 =>
      intro x22 x23 u24 u25 u26 u27 u28 u29 h33 hO33 hu33 iv34 mm35
      refine ur_ldI rfl rfl ?_
      refine ur_ldA rfl rfl ?_
      obtain ⟨g56, f37, f38, f39, f40, f41, f42, f43, f44, f45, f46, q47, q48, o49, q50, hc36, k51, k52, k53, k54, k55⟩ := hO33.comet (hu33.tm t1 (by decide))
      refine ur_get rfl hc36 rfl ?_
      have z57 := any_r x23
      have z58 := any_r f46
      refine ur_if2 rfl (fun c59 => ?_) (fun c59 => ?_)
      · have t60 := lt_to c59
        refine ur_ldI rfl rfl ?_
        exact ur_ret rfl rfl (hQ _ _ ⟨_, rfl⟩ hO33 hu33)
      · have t61 := lt_no c59
        refine ur_ldA rfl rfl ?_
        refine ur_ldI rfl rfl ?_
        refine ur_inl rfl (rcv_of hc36) (Nat.le_of_ble_eq_true rfl) (Nat.le_of_ble_eq_true rfl) (sf_X2_passOf hO33 g56 (hu33.tm t1 (by decide)) _ (fun w62 hr63 => ?_))
        obtain ⟨x64, rfl⟩ := hr63
        show uRun _ (uCall Mt _) _ 23 (_, [(.inl x64)], _, _, _)
        refine ur_svIk [some (.inr (.inr (some 41))), some (.inr (.inr (some a1))), some (.inr (.inr (some a2))), some (.inl x22), some (.inl x23), some (.inl x64), u25, u26, u27, u28, u29] rfl rfl ?_
        refine ur_ldA rfl rfl ?_
        refine ur_ldA rfl rfl ?_
        refine ur_ldI rfl rfl ?_
        obtain ⟨f66, f67, hc65, k68⟩ := ok_41 hO33
        refine ur_inl rfl (rcv_of hc65) (Nat.le_of_ble_eq_true rfl) (Nat.le_of_ble_eq_true rfl) (sf_X7_gatherNear hO33 g2 (hu33.tm t2 (by decide)) _ (fun w69 h71 hr70 hO71 hv71 => ?_))
        have hu71 : un [222, 223, 21212] h33 h71 := hv71.mono (by decide)
        subst hr70
        show uRun _ (uCall Mt _) _ 32 (_, [], _, _, _)
        refine ur_push rfl ?_
        refine ur_svIk [some (.inr (.inr (some 41))), some (.inr (.inr (some a1))), some (.inr (.inr (some a2))), some (.inl x22), some (.inl x23), some (.inl x64), some (.inl 0), u26, u27, u28, u29] rfl rfl ?_
        have L78 : ∀ (m79 : Nat) (x72 : Int32) (x73 : Int32) (u74 : Option aV) (u75 : Option aV) (u76 : Option aV) (u77 : Option aV) (h81 : aH) , OK h81 → un [222, 223, 21212] h71 h81 → ((0 ≤ x73.toInt ∧ x73.toInt ≤ 2147483647)) → ((2147483648 - x73.toInt).toNat) < m79 → uRun oX7_nextToLookFor (uCall Mt (d + 6)) Q 35 ([some (.inr (.inr (some 41))), some (.inr (.inr (some a1))), some (.inr (.inr (some a2))), some (.inl x72), some (.inl x23), some (.inl x64), some (.inl x73), u74, u75, u76, u77], [], h81, kc, ks) := by
          intro m79
          induction m79 with
          | zero => intro x72 x73 u74 u75 u76 u77 h81 hO81 hu81 iv82 mm83; omega
          | succ m79 ih80 =>
            intro x72 x73 u74 u75 u76 u77 h81 hO81 hu81 iv82 mm83
            refine ur_ldI rfl rfl ?_
            refine ur_ldA rfl rfl ?_
            obtain ⟨f85, f86, hc84, k87⟩ := ok_41 hO81
            refine ur_get rfl hc84 rfl ?_
            have z88 := any_r x73
            have z89 := any_r f85
            refine ur_if2 rfl (fun c90 => ?_) (fun c90 => ?_)
            · have t91 := le_to c90
              refine ur_incV (fun z => [some (.inr (.inr (some 41))), some (.inr (.inr (some a1))), some (.inr (.inr (some a2))), some (.inl x72), some (.inl z), some (.inl x64), some (.inl x73), u74, u75, u76, u77]) rfl rfl (fun _ => rfl) (fun x92 e93 => ?_)
              have t94 := ti_add e93 (by omega) (by omega)
              refine ur_go rfl ?_
              have z95 := any_r x92
              exact ih32 x72 x92 _ _ _ _ _ _ _ hO81 (hu33.tr (hu71.tr hu81)) (by omega) (by omega)
            · have t96 := le_no c90
              refine ur_ldA rfl rfl ?_
              refine ur_get rfl hc84 rfl ?_
              refine ur_ldI rfl rfl ?_
              obtain ⟨xs98, hc97, hn99, he100⟩ := hO81.int (hO81.fix 43 (by decide) rfl)
              refine ur_aldV rfl hc97 hn99 (by omega) (fun x101 hx102 => ?_)
              have t103 : 0 ≤ x101.toInt ∧ x101.toInt ≤ 999999 := he100 _ _ hx102
              refine ur_ldI rfl rfl ?_
              refine ur_push rfl ?_
              refine ur_binV rfl (fun x104 e105 => ?_)
              have z106 := any_r x64
              refine ur_maxV rfl (by show ¬ 9 ≤ 2; decide) (fun x107 t108 e109 => ?_)
              refine ur_svIk [some (.inr (.inr (some 41))), some (.inr (.inr (some a1))), some (.inr (.inr (some a2))), some (.inl x72), some (.inl x23), some (.inl x64), some (.inl x73), some (.inl x107), u75, u76, u77] rfl rfl ?_
              refine ur_ldA rfl rfl ?_
              refine ur_get rfl hc84 rfl ?_
              refine ur_ldI rfl rfl ?_
              obtain ⟨xs111, hc110, hn112, he113⟩ := hO81.int (hO81.fix 44 (by decide) rfl)
              refine ur_aldV rfl hc110 hn112 (by omega) (fun x114 hx115 => ?_)
              have t116 : 0 ≤ x114.toInt ∧ x114.toInt ≤ 999999 := he113 _ _ hx115
              refine ur_ldI rfl rfl ?_
              refine ur_push rfl ?_
              refine ur_binV rfl (fun x117 e118 => ?_)
              refine ur_minV rfl (by show ¬ 9 ≤ 2; decide) (fun x119 t120 e121 => ?_)
              refine ur_svIk [some (.inr (.inr (some 41))), some (.inr (.inr (some a1))), some (.inr (.inr (some a2))), some (.inl x72), some (.inl x23), some (.inl x64), some (.inl x73), some (.inl x107), some (.inl x119), u76, u77] rfl rfl ?_
              refine ur_ldI rfl rfl ?_
              refine ur_push rfl ?_
              refine ur_if2 rfl (fun c122 => ?_) (fun c122 => ?_)
              · have t123 := eq_to c122
                refine ur_ldA rfl rfl ?_
                refine ur_ldA rfl rfl ?_
                refine ur_ldA rfl rfl ?_
                refine ur_ldI rfl rfl ?_
                refine ur_ldA rfl rfl ?_
                refine ur_get rfl hc84 rfl ?_
                refine ur_ldI rfl rfl ?_
                obtain ⟨xs125, hc124, hn126, he127⟩ := hO81.int (hO81.fix 42 (by decide) rfl)
                refine ur_aldV rfl hc124 hn126 (by omega) (fun x128 hx129 => ?_)
                have t130 : 0 ≤ x128.toInt ∧ x128.toInt ≤ 8 := he127 _ _ hx129
                refine ur_ldI rfl rfl ?_
                refine ur_ldI rfl rfl ?_
                have z131 := any_r x119
                refine ur_inl rfl (rcv_of hc84) (Nat.le_of_ble_eq_true rfl) (Nat.le_of_ble_eq_true rfl) (sf_X7_firstOfOneAlone hO81 g56 (hu81.tm (hu71.tm (hu33.tm t1 (by decide)) (by decide)) (by decide)) g2 (hu81.tm (hu71.tm (hu33.tm t2 (by decide)) (by decide)) (by decide)) _ (by show -60 ≤ x23.toInt ∧ x23.toInt ≤ 60; omega) _ (by show 0 ≤ x128.toInt ∧ x128.toInt ≤ 8; omega) _ _ (by show -2147483648 ≤ x119.toInt ∧ x119.toInt ≤ 999999; omega) (fun w132 h134 hr133 hO134 hv134 => ?_))
                have hu134 := hv134
                obtain ⟨x135, rfl⟩ := hr133
                show uRun _ (uCall Mt _) _ 113 (_, [(.inl x135)], _, _, _)
                refine ur_svIk [some (.inr (.inr (some 41))), some (.inr (.inr (some a1))), some (.inr (.inr (some a2))), some (.inl x72), some (.inl x23), some (.inl x64), some (.inl x73), some (.inl x107), some (.inl x119), some (.inl x135), u77] rfl rfl ?_
                refine ur_ldI rfl rfl ?_
                refine ur_push rfl ?_
                refine ur_if2 rfl (fun c136 => ?_) (fun c136 => ?_)
                · have t137 := ne_to c136
                  refine ur_ldI rfl rfl ?_
                  refine ur_push rfl ?_
                  refine ur_binV rfl (fun x138 e139 => ?_)
                  have z140 := any_r x135
                  refine ur_ldA rfl rfl ?_
                  obtain ⟨f142, f143, hc141, k144⟩ := ok_41 hO134
                  refine ur_get rfl hc141 rfl ?_
                  refine ur_ldI rfl rfl ?_
                  refine ur_aldV rfl (hv134.ka (n := 10) hc124 hn126 rfl (by decide) (wid_f (by decide)) (by decide)) hn126 (by omega) (fun x145 hx146 => ?_)
                  obtain rfl : x128 = x145 := Option.some.inj (hx129.symm.trans hx146)
                  refine ur_binV rfl (fun x147 e148 => ?_)
                  have z149 := any_r x138
                  have z150 := any_r x128
                  refine ur_svIk [some (.inr (.inr (some 41))), some (.inr (.inr (some a1))), some (.inr (.inr (some a2))), some (.inl x72), some (.inl x23), some (.inl x64), some (.inl x73), some (.inl x107), some (.inl x119), some (.inl x135), some (.inl x147)] rfl rfl ?_
                  refine ur_ldI rfl rfl ?_
                  refine ur_push rfl ?_
                  refine ur_if2 rfl (fun c151 => ?_) (fun c151 => ?_)
                  · have t152 := eq_to c151
                    refine ur_ldI rfl rfl ?_
                    refine ur_svIk [some (.inr (.inr (some 41))), some (.inr (.inr (some a1))), some (.inr (.inr (some a2))), some (.inl x147), some (.inl x23), some (.inl x64), some (.inl x73), some (.inl x107), some (.inl x119), some (.inl x135), some (.inl x147)] rfl rfl ?_
                    refine ur_incV (fun z => [some (.inr (.inr (some 41))), some (.inr (.inr (some a1))), some (.inr (.inr (some a2))), some (.inl x147), some (.inl x23), some (.inl x64), some (.inl z), some (.inl x107), some (.inl x119), some (.inl x135), some (.inl x147)]) rfl rfl (fun _ => rfl) (fun x153 e154 => ?_)
                    have t155 := ti_add e154 (by omega) (by omega)
                    refine ur_go rfl ?_
                    have z156 := any_r x153
                    exact ih80 x147 x153 _ _ _ _ _ hO134 (hu81.tr hu134) (by omega) (by omega)
                  · have t157 := eq_no c151
                    exfalso
                    omega
                · have t158 := ne_no c136
                  refine ur_go rfl ?_
                  refine ur_incV (fun z => [some (.inr (.inr (some 41))), some (.inr (.inr (some a1))), some (.inr (.inr (some a2))), some (.inl x72), some (.inl x23), some (.inl x64), some (.inl z), some (.inl x107), some (.inl x119), some (.inl x135), u77]) rfl rfl (fun _ => rfl) (fun x159 e160 => ?_)
                  have t161 := ti_add e160 (by omega) (by omega)
                  refine ur_go rfl ?_
                  have z162 := any_r x159
                  exact ih80 x72 x159 _ _ _ _ _ hO134 (hu81.tr hu134) (by omega) (by omega)
              · have t163 := eq_no c122
                refine ur_ldI rfl rfl ?_
                refine ur_ldI rfl rfl ?_
                refine ur_push rfl ?_
                refine ur_divV rfl (by decide) (fun x164 e165 => ?_)
                have z166 := any_r x72
                have t167 : 0 ≤ x72.toInt → x164.toInt = x72.toInt / 9 := fun q => ti_div e165 l_9 (by decide) q
                refine ur_minV rfl (by show ¬ 9 ≤ 2; decide) (fun x168 t169 e170 => ?_)
                refine ur_svIk [some (.inr (.inr (some 41))), some (.inr (.inr (some a1))), some (.inr (.inr (some a2))), some (.inl x72), some (.inl x23), some (.inl x64), some (.inl x73), some (.inl x107), some (.inl x168), u76, u77] rfl rfl ?_
                refine ur_ldA rfl rfl ?_
                refine ur_ldA rfl rfl ?_
                refine ur_ldA rfl rfl ?_
                refine ur_ldI rfl rfl ?_
                refine ur_ldA rfl rfl ?_
                refine ur_get rfl hc84 rfl ?_
                refine ur_ldI rfl rfl ?_
                obtain ⟨xs172, hc171, hn173, he174⟩ := hO81.int (hO81.fix 42 (by decide) rfl)
                refine ur_aldV rfl hc171 hn173 (by omega) (fun x175 hx176 => ?_)
                have t177 : 0 ≤ x175.toInt ∧ x175.toInt ≤ 8 := he174 _ _ hx176
                refine ur_ldI rfl rfl ?_
                refine ur_ldI rfl rfl ?_
                have z178 := any_r x168
                refine ur_inl rfl (rcv_of hc84) (Nat.le_of_ble_eq_true rfl) (Nat.le_of_ble_eq_true rfl) (sf_X7_firstOfOneAlone hO81 g56 (hu81.tm (hu71.tm (hu33.tm t1 (by decide)) (by decide)) (by decide)) g2 (hu81.tm (hu71.tm (hu33.tm t2 (by decide)) (by decide)) (by decide)) _ (by show -60 ≤ x23.toInt ∧ x23.toInt ≤ 60; omega) _ (by show 0 ≤ x175.toInt ∧ x175.toInt ≤ 8; omega) _ _ (by show -2147483648 ≤ x168.toInt ∧ x168.toInt ≤ 999999; omega) (fun w179 h181 hr180 hO181 hv181 => ?_))
                have hu181 := hv181
                obtain ⟨x182, rfl⟩ := hr180
                show uRun _ (uCall Mt _) _ 113 (_, [(.inl x182)], _, _, _)
                refine ur_svIk [some (.inr (.inr (some 41))), some (.inr (.inr (some a1))), some (.inr (.inr (some a2))), some (.inl x72), some (.inl x23), some (.inl x64), some (.inl x73), some (.inl x107), some (.inl x168), some (.inl x182), u77] rfl rfl ?_
                refine ur_ldI rfl rfl ?_
                refine ur_push rfl ?_
                refine ur_if2 rfl (fun c183 => ?_) (fun c183 => ?_)
                · have t184 := ne_to c183
                  refine ur_ldI rfl rfl ?_
                  refine ur_push rfl ?_
                  refine ur_binV rfl (fun x185 e186 => ?_)
                  have z187 := any_r x182
                  refine ur_ldA rfl rfl ?_
                  obtain ⟨f189, f190, hc188, k191⟩ := ok_41 hO181
                  refine ur_get rfl hc188 rfl ?_
                  refine ur_ldI rfl rfl ?_
                  refine ur_aldV rfl (hv181.ka (n := 10) hc171 hn173 rfl (by decide) (wid_f (by decide)) (by decide)) hn173 (by omega) (fun x192 hx193 => ?_)
                  obtain rfl : x175 = x192 := Option.some.inj (hx176.symm.trans hx193)
                  refine ur_binV rfl (fun x194 e195 => ?_)
                  have z196 := any_r x185
                  have z197 := any_r x175
                  refine ur_svIk [some (.inr (.inr (some 41))), some (.inr (.inr (some a1))), some (.inr (.inr (some a2))), some (.inl x72), some (.inl x23), some (.inl x64), some (.inl x73), some (.inl x107), some (.inl x168), some (.inl x182), some (.inl x194)] rfl rfl ?_
                  refine ur_ldI rfl rfl ?_
                  refine ur_push rfl ?_
                  refine ur_if2 rfl (fun c198 => ?_) (fun c198 => ?_)
                  · have t199 := eq_to c198
                    refine ur_ldI rfl rfl ?_
                    refine ur_svIk [some (.inr (.inr (some 41))), some (.inr (.inr (some a1))), some (.inr (.inr (some a2))), some (.inl x194), some (.inl x23), some (.inl x64), some (.inl x73), some (.inl x107), some (.inl x168), some (.inl x182), some (.inl x194)] rfl rfl ?_
                    refine ur_incV (fun z => [some (.inr (.inr (some 41))), some (.inr (.inr (some a1))), some (.inr (.inr (some a2))), some (.inl x194), some (.inl x23), some (.inl x64), some (.inl z), some (.inl x107), some (.inl x168), some (.inl x182), some (.inl x194)]) rfl rfl (fun _ => rfl) (fun x200 e201 => ?_)
                    have t202 := ti_add e201 (by omega) (by omega)
                    refine ur_go rfl ?_
                    have z203 := any_r x200
                    exact ih80 x194 x200 _ _ _ _ _ hO181 (hu81.tr hu181) (by omega) (by omega)
                  · have t204 := eq_no c198
                    refine ur_ldI rfl rfl ?_
                    refine ur_ldI rfl rfl ?_
                    have z205 := any_r x194
                    refine ur_if2 rfl (fun c206 => ?_) (fun c206 => ?_)
                    · have t207 := le_to c206
                      refine ur_incV (fun z => [some (.inr (.inr (some 41))), some (.inr (.inr (some a1))), some (.inr (.inr (some a2))), some (.inl x72), some (.inl x23), some (.inl x64), some (.inl z), some (.inl x107), some (.inl x168), some (.inl x182), some (.inl x194)]) rfl rfl (fun _ => rfl) (fun x208 e209 => ?_)
                      have t210 := ti_add e209 (by omega) (by omega)
                      refine ur_go rfl ?_
                      have z211 := any_r x208
                      exact ih80 x72 x208 _ _ _ _ _ hO181 (hu81.tr hu181) (by omega) (by omega)
                    · have t212 := le_no c206
                      refine ur_ldI rfl rfl ?_
                      refine ur_svIk [some (.inr (.inr (some 41))), some (.inr (.inr (some a1))), some (.inr (.inr (some a2))), some (.inl x194), some (.inl x23), some (.inl x64), some (.inl x73), some (.inl x107), some (.inl x168), some (.inl x182), some (.inl x194)] rfl rfl ?_
                      refine ur_incV (fun z => [some (.inr (.inr (some 41))), some (.inr (.inr (some a1))), some (.inr (.inr (some a2))), some (.inl x194), some (.inl x23), some (.inl x64), some (.inl z), some (.inl x107), some (.inl x168), some (.inl x182), some (.inl x194)]) rfl rfl (fun _ => rfl) (fun x213 e214 => ?_)
                      have t215 := ti_add e214 (by omega) (by omega)
                      refine ur_go rfl ?_
                      have z216 := any_r x213
                      exact ih80 x194 x213 _ _ _ _ _ hO181 (hu81.tr hu181) (by omega) (by omega)
                · have t217 := ne_no c183
                  refine ur_go rfl ?_
                  refine ur_incV (fun z => [some (.inr (.inr (some 41))), some (.inr (.inr (some a1))), some (.inr (.inr (some a2))), some (.inl x72), some (.inl x23), some (.inl x64), some (.inl z), some (.inl x107), some (.inl x168), some (.inl x182), u77]) rfl rfl (fun _ => rfl) (fun x218 e219 => ?_)
                  have t220 := ti_add e219 (by omega) (by omega)
                  refine ur_go rfl ?_
                  have z221 := any_r x218
                  exact ih80 x72 x218 _ _ _ _ _ hO181 (hu81.tr hu181) (by omega) (by omega)
        exact L78 _ x22 0 (u26) (u27) (u28) (u29) _ hO71 un.rf (by omega) (Nat.lt_succ_self _)
  have z222 := any_r f10
  exact L30 _ (-1) f10 (none) (none) (none) (none) (none) (none) _ hO0 un.rf (by omega) (Nat.lt_succ_self _)

set_option maxRecDepth 20000 in
set_option maxHeartbeats 4000000 in
theorem sf_X11_seen {d kc ks : Nat} {h0 : aH} {Q : Option aV → aH → Prop} (hO0 : OK h0) (a1 : Int32) (a2 : Int32) (a3 : Int32) (hQ : ∀ r h', (∃ x, r = some (.inl x)) → OK h' → un [222, 223, 21212] h0 h' → Q r h') : uCall Mt (d + 5) 129 [(.inr (.inr (some 0))), (.inl a1), (.inl a2), (.inl a3)] h0 kc ks Q := by
  have l_m2000000000 : ((-2000000000) : Int32).toInt = -2000000000 := by decide
  have l_0 : ((0) : Int32).toInt = 0 := by decide
  have l_1 : ((1) : Int32).toInt = 1 := by decide
  have l_8 : ((8) : Int32).toInt = 8 := by decide
  have l_999999 : ((999999) : Int32).toInt = 999999 := by decide
  refine uc_ink [some (.inr (.inr (some 0))), some (.inl a1), some (.inl a2), some (.inl a3), none, none] mt_129 (Nat.le_of_ble_eq_true rfl) rfl ?_
  refine ur_ldA rfl rfl ?_
  obtain ⟨hc1, k2⟩ := ok_0 hO0
  refine ur_get rfl hc1 rfl ?_
  refine ur_ldI rfl rfl ?_
  obtain ⟨f4, f5, hc3, k6⟩ := ok_1 hO0
  refine ur_inl rfl (rcv_of hc3) (Nat.le_of_ble_eq_true rfl) (Nat.le_of_ble_eq_true rfl) (sf_X6_cometAt hO0 _ (fun w7 hr8 => ?_))
  obtain ⟨o9, rfl, k10⟩ := hr8
  show uRun _ (uCall Mt _) _ 8 (_, [(.inr (.inr o9))], _, _, _)
  refine ur_svAk [some (.inr (.inr (some 0))), some (.inl a1), some (.inl a2), some (.inl a3), some (.inr (.inr o9)), none] rfl rfl ?_
  refine ur_ldA rfl rfl ?_
  cases o9 with
  | none =>
    refine ur_nulN rfl ?_
    refine ur_push rfl ?_
    exact ur_ret rfl rfl (hQ _ _ ⟨_, rfl⟩ hO0 un.rf)
  | some r11 =>
    refine ur_nulS rfl ?_
    have k12 := k10 _ rfl
    refine ur_ldI rfl rfl ?_
    refine ur_callv rfl rfl (Nat.le_of_ble_eq_true rfl) (Nat.le_of_ble_eq_true rfl) rfl (sp_isPpl _ _) ?_
    refine ur_eqB rfl (fun c15 => ?_) (fun c15 => ?_)
    · have t16 := wi_noL c15 l_0 l_8
      refine ur_push rfl ?_
      exact ur_ret rfl rfl (hQ _ _ ⟨_, rfl⟩ hO0 un.rf)
    · have t17 := wi_toL c15 l_0 l_8
      refine ur_ldI rfl rfl ?_
      refine ur_callv rfl rfl (Nat.le_of_ble_eq_true rfl) (Nat.le_of_ble_eq_true rfl) rfl (sp_isDay _ _) ?_
      refine ur_neB rfl (fun c20 => ?_) (fun c20 => ?_)
      · have t21 := wi_toL c20 l_0 l_999999
        refine ur_ldA rfl rfl ?_
        obtain ⟨g42, f23, f24, f25, f26, f27, f28, f29, f30, f31, f32, q33, q34, o35, q36, hc22, k37, k38, k39, k40, k41⟩ := hO0.comet k12.2
        refine ur_get rfl hc22 rfl ?_
        refine ur_svIk [some (.inr (.inr (some 0))), some (.inl a1), some (.inl a2), some (.inl a3), some (.inr (.inr (some r11))), some (.inl f31)] rfl rfl ?_
        have L44 : ∀ (m45 : Nat) (x43 : Int32) (h47 : aH) , OK h47 → un [222, 223, 21212] h0 h47 → ((-60 ≤ x43.toInt ∧ x43.toInt ≤ 2147483647)) → ((2147483648 - x43.toInt).toNat) < m45 → uRun oX11_seen (uCall Mt (d + 4)) Q 39 ([some (.inr (.inr (some 0))), some (.inl a1), some (.inl a2), some (.inl a3), some (.inr (.inr (some r11))), some (.inl x43)], [], h47, kc, ks) := by
          intro m45
          induction m45 with
          | zero => intro x43 h47 hO47 hu47 iv48 mm49; omega
          | succ m45 ih46 =>
            intro x43 h47 hO47 hu47 iv48 mm49
            refine ur_ldI rfl rfl ?_
            refine ur_ldA rfl rfl ?_
            obtain ⟨g70, f51, f52, f53, f54, f55, f56, f57, f58, f59, f60, q61, q62, o63, q64, hc50, k65, k66, k67, k68, k69⟩ := hO47.comet (hu47.tm k12.2 (by decide))
            refine ur_get rfl hc50 rfl ?_
            have z71 := any_r x43
            have z72 := any_r f60
            refine ur_if2 rfl (fun c73 => ?_) (fun c73 => ?_)
            · have t74 := lt_to c73
              refine ur_push rfl ?_
              exact ur_ret rfl rfl (hQ _ _ ⟨_, rfl⟩ hO47 hu47)
            · have t75 := lt_no c73
              refine ur_ldA rfl rfl ?_
              refine ur_get rfl (hu47.ko (n := 8) hc1 rfl (wid_f (by decide)) (by decide)) rfl ?_
              refine ur_ldA rfl rfl ?_
              refine ur_ldI rfl rfl ?_
              refine ur_ldI rfl rfl ?_
              refine ur_push rfl ?_
              refine ur_ldI rfl rfl ?_
              obtain ⟨f77, hc76, k78⟩ := ok_8 hO47
              refine ur_inl rfl (rcv_of hc76) (Nat.le_of_ble_eq_true rfl) (Nat.le_of_ble_eq_true rfl) (sf_X5_seenOn hO47 g70 (hu47.tm k12.2 (by decide)) _ (by show 0 ≤ a2.toInt ∧ a2.toInt ≤ 8; omega) _ (by show -60 ≤ x43.toInt ∧ x43.toInt ≤ 60; omega) _ _ (fun w79 h81 hr80 hO81 hv81 => ?_))
              have hu81 := hv81
              obtain ⟨b82, rfl⟩ := hr80
              show uRun _ (uCall Mt _) _ 63 (_, [(.inl (bi b82))], _, _, _)
              refine ur_eqB rfl (fun c83 => ?_) (fun c83 => ?_)
              · refine ur_incV (fun z => [some (.inr (.inr (some 0))), some (.inl a1), some (.inl a2), some (.inl a3), some (.inr (.inr (some r11))), some (.inl z)]) rfl rfl (fun _ => rfl) (fun x84 e85 => ?_)
                have t86 := ti_add e85 (by omega) (by omega)
                refine ur_go rfl ?_
                have z87 := any_r x84
                exact ih46 x84 _ hO81 (hu47.tr hu81) (by omega) (by omega)
              · refine ur_ldI rfl rfl ?_
                exact ur_ret rfl rfl (hQ _ _ ⟨_, rfl⟩ hO81 (hu47.tr hu81))
        have z88 := any_r f31
        exact L44 _ f31 _ hO0 un.rf (by omega) (Nat.lt_succ_self _)
      · have t89 := wi_noL c20 l_0 l_999999
        refine ur_push rfl ?_
        exact ur_ret rfl rfl (hQ _ _ ⟨_, rfl⟩ hO0 un.rf)

set_option maxRecDepth 20000 in
set_option maxHeartbeats 4000000 in
theorem sf_X11_fits {d kc ks : Nat} {h0 : aH} {Q : Option aV → aH → Prop} (hO0 : OK h0) (a1 : Int32) (a2 : Int32) (a3 : Int32) (hQ : ∀ r h', (∃ x, r = some (.inl x)) → OK h' → un [222, 223, 21212] h0 h' → Q r h') : uCall Mt (d + 7) 139 [(.inr (.inr (some 0))), (.inl a1), (.inl a2), (.inl a3)] h0 kc ks Q := by
  have l_m120 : ((-120) : Int32).toInt = -120 := by decide
  have l_m60 : ((-60) : Int32).toInt = -60 := by decide
  have l_m2 : ((-2) : Int32).toInt = -2 := by decide
  have l_m1 : ((-1) : Int32).toInt = -1 := by decide
  have l_0 : ((0) : Int32).toInt = 0 := by decide
  have l_60 : ((60) : Int32).toInt = 60 := by decide
  have l_120 : ((120) : Int32).toInt = 120 := by decide
  refine uc_ink [some (.inr (.inr (some 0))), some (.inl a1), some (.inl a2), some (.inl a3), none, none, none] mt_139 (Nat.le_of_ble_eq_true rfl) rfl ?_
  refine ur_ldA rfl rfl ?_
  obtain ⟨hc1, k2⟩ := ok_0 hO0
  refine ur_get rfl hc1 rfl ?_
  refine ur_ldI rfl rfl ?_
  obtain ⟨f4, f5, f6, f7, hc3, k8⟩ := ok_15 hO0
  refine ur_inl rfl (rcv_of hc3) (Nat.le_of_ble_eq_true rfl) (Nat.le_of_ble_eq_true rfl) (sf_X1_wordAt hO0 _ (fun w9 hr10 => ?_))
  obtain ⟨o11, rfl, k12⟩ := hr10
  show uRun _ (uCall Mt _) _ 8 (_, [(.inr (.inr o11))], _, _, _)
  refine ur_svAk [some (.inr (.inr (some 0))), some (.inl a1), some (.inl a2), some (.inl a3), some (.inr (.inr o11)), none, none] rfl rfl ?_
  refine ur_ldA rfl rfl ?_
  refine ur_get rfl hc1 rfl ?_
  refine ur_ldI rfl rfl ?_
  obtain ⟨f14, f15, hc13, k16⟩ := ok_1 hO0
  refine ur_inl rfl (rcv_of hc13) (Nat.le_of_ble_eq_true rfl) (Nat.le_of_ble_eq_true rfl) (sf_X6_cometAt hO0 _ (fun w17 hr18 => ?_))
  obtain ⟨o19, rfl, k20⟩ := hr18
  show uRun _ (uCall Mt _) _ 18 (_, [(.inr (.inr o19))], _, _, _)
  refine ur_svAk [some (.inr (.inr (some 0))), some (.inl a1), some (.inl a2), some (.inl a3), some (.inr (.inr o11)), some (.inr (.inr o19)), none] rfl rfl ?_
  refine ur_ldA rfl rfl ?_
  cases o11 with
  | none =>
    refine ur_nulN rfl ?_
    refine ur_push rfl ?_
    exact ur_ret rfl rfl (hQ _ _ ⟨_, rfl⟩ hO0 un.rf)
  | some r21 =>
    refine ur_nulS rfl ?_
    have k22 := k12 _ rfl
    refine ur_ldA rfl rfl ?_
    cases o19 with
    | none =>
      refine ur_nulN rfl ?_
      refine ur_push rfl ?_
      exact ur_ret rfl rfl (hQ _ _ ⟨_, rfl⟩ hO0 un.rf)
    | some r23 =>
      refine ur_nulS rfl ?_
      have k24 := k20 _ rfl
      refine ur_ldI rfl rfl ?_
      refine ur_callv rfl rfl (Nat.le_of_ble_eq_true rfl) (Nat.le_of_ble_eq_true rfl) rfl (sp_isRet _ _) ?_
      refine ur_neB rfl (fun c27 => ?_) (fun c27 => ?_)
      · have t28 := wi_toL c27 l_m60 l_60
        refine ur_ldA rfl rfl ?_
        refine ur_ldI rfl rfl ?_
        obtain ⟨g49, f30, f31, f32, f33, f34, f35, f36, f37, f38, f39, q40, q41, o42, q43, hc29, k44, k45, k46, k47, k48⟩ := hO0.comet k24.2
        refine ur_inl rfl (rcv_of hc29) (Nat.le_of_ble_eq_true rfl) (Nat.le_of_ble_eq_true rfl) (sf_X2_hasReturn hO0 g49 k24.2 _ (fun w50 hr51 => ?_))
        obtain ⟨b52, rfl⟩ := hr51
        show uRun _ (uCall Mt _) _ 45 (_, [(.inl (bi b52))], _, _, _)
        refine ur_neB rfl (fun c53 => ?_) (fun c53 => ?_)
        · refine ur_ldA rfl rfl ?_
          refine ur_get rfl hc1 rfl ?_
          refine ur_ldA rfl rfl ?_
          refine ur_ldA rfl rfl ?_
          refine ur_ldI rfl rfl ?_
          refine ur_push rfl ?_
          refine ur_push rfl ?_
          refine ur_push rfl ?_
          obtain ⟨f55, hc54, k56⟩ := ok_8 hO0
          refine ur_inl rfl (rcv_of hc54) (Nat.le_of_ble_eq_true rfl) (Nat.le_of_ble_eq_true rfl) (sf_X5_fitDay hO0 k22.1 k22.2 g49 k24.2 _ (by show -60 ≤ a3.toInt ∧ a3.toInt ≤ 60; omega) _ _ _ (fun w57 h59 hr58 hO59 hv59 => ?_))
          have hu59 := hv59
          obtain ⟨x60, rfl⟩ := hr58
          show uRun _ (uCall Mt _) _ 68 (_, [(.inl x60)], _, _, _)
          refine ur_svIk [some (.inr (.inr (some 0))), some (.inl a1), some (.inl a2), some (.inl a3), some (.inr (.inr (some r21))), some (.inr (.inr (some r23))), some (.inl x60)] rfl rfl ?_
          refine ur_ldI rfl rfl ?_
          refine ur_push rfl ?_
          refine ur_if2 rfl (fun c61 => ?_) (fun c61 => ?_)
          · have t62 := ne_to c61
            refine ur_ldI rfl rfl ?_
            exact ur_ret rfl rfl (hQ _ _ ⟨_, rfl⟩ hO59 hu59)
          · have t63 := ne_no c61
            refine ur_push rfl ?_
            refine ur_go rfl ?_
            exact ur_ret rfl rfl (hQ _ _ ⟨_, rfl⟩ hO59 hu59)
        · refine ur_push rfl ?_
          exact ur_ret rfl rfl (hQ _ _ ⟨_, rfl⟩ hO0 un.rf)
      · have t64 := wi_noL c27 l_m60 l_60
        refine ur_push rfl ?_
        exact ur_ret rfl rfl (hQ _ _ ⟨_, rfl⟩ hO0 un.rf)

set_option maxRecDepth 20000 in
set_option maxHeartbeats 4000000 in
theorem sf_X11_perhaps {d kc ks : Nat} {h0 : aH} {Q : Option aV → aH → Prop} (hO0 : OK h0) (a1 : Int32) (a2 : Int32) (a3 : Int32) (hQ : ∀ r h', (∃ x, r = some (.inl x)) → OK h' → un [222, 223, 21212] h0 h' → Q r h') : uCall Mt (d + 8) 140 [(.inr (.inr (some 0))), (.inl a1), (.inl a2), (.inl a3)] h0 kc ks Q := by
  have l_m2000000000 : ((-2000000000) : Int32).toInt = -2000000000 := by decide
  have l_m60 : ((-60) : Int32).toInt = -60 := by decide
  have l_m2 : ((-2) : Int32).toInt = -2 := by decide
  have l_60 : ((60) : Int32).toInt = 60 := by decide
  refine uc_ink [some (.inr (.inr (some 0))), some (.inl a1), some (.inl a2), some (.inl a3), none, none] mt_140 (Nat.le_of_ble_eq_true rfl) rfl ?_
  refine ur_ldA rfl rfl ?_
  obtain ⟨hc1, k2⟩ := ok_0 hO0
  refine ur_get rfl hc1 rfl ?_
  refine ur_ldI rfl rfl ?_
  obtain ⟨f4, f5, f6, f7, hc3, k8⟩ := ok_15 hO0
  refine ur_inl rfl (rcv_of hc3) (Nat.le_of_ble_eq_true rfl) (Nat.le_of_ble_eq_true rfl) (sf_X1_wordAt hO0 _ (fun w9 hr10 => ?_))
  obtain ⟨o11, rfl, k12⟩ := hr10
  show uRun _ (uCall Mt _) _ 8 (_, [(.inr (.inr o11))], _, _, _)
  refine ur_svAk [some (.inr (.inr (some 0))), some (.inl a1), some (.inl a2), some (.inl a3), some (.inr (.inr o11)), none] rfl rfl ?_
  refine ur_ldA rfl rfl ?_
  refine ur_get rfl hc1 rfl ?_
  refine ur_ldI rfl rfl ?_
  obtain ⟨f14, f15, hc13, k16⟩ := ok_1 hO0
  refine ur_inl rfl (rcv_of hc13) (Nat.le_of_ble_eq_true rfl) (Nat.le_of_ble_eq_true rfl) (sf_X6_cometAt hO0 _ (fun w17 hr18 => ?_))
  obtain ⟨o19, rfl, k20⟩ := hr18
  show uRun _ (uCall Mt _) _ 18 (_, [(.inr (.inr o19))], _, _, _)
  refine ur_svAk [some (.inr (.inr (some 0))), some (.inl a1), some (.inl a2), some (.inl a3), some (.inr (.inr o11)), some (.inr (.inr o19))] rfl rfl ?_
  refine ur_ldA rfl rfl ?_
  cases o11 with
  | none =>
    refine ur_nulN rfl ?_
    refine ur_push rfl ?_
    exact ur_ret rfl rfl (hQ _ _ ⟨_, rfl⟩ hO0 un.rf)
  | some r21 =>
    refine ur_nulS rfl ?_
    have k22 := k12 _ rfl
    refine ur_ldA rfl rfl ?_
    cases o19 with
    | none =>
      refine ur_nulN rfl ?_
      refine ur_push rfl ?_
      exact ur_ret rfl rfl (hQ _ _ ⟨_, rfl⟩ hO0 un.rf)
    | some r23 =>
      refine ur_nulS rfl ?_
      have k24 := k20 _ rfl
      refine ur_ldI rfl rfl ?_
      refine ur_callv rfl rfl (Nat.le_of_ble_eq_true rfl) (Nat.le_of_ble_eq_true rfl) rfl (sp_isRet _ _) ?_
      refine ur_neB rfl (fun c27 => ?_) (fun c27 => ?_)
      · have t28 := wi_toL c27 l_m60 l_60
        refine ur_ldA rfl rfl ?_
        refine ur_ldI rfl rfl ?_
        obtain ⟨g49, f30, f31, f32, f33, f34, f35, f36, f37, f38, f39, q40, q41, o42, q43, hc29, k44, k45, k46, k47, k48⟩ := hO0.comet k24.2
        refine ur_inl rfl (rcv_of hc29) (Nat.le_of_ble_eq_true rfl) (Nat.le_of_ble_eq_true rfl) (sf_X2_hasReturn hO0 g49 k24.2 _ (fun w50 hr51 => ?_))
        obtain ⟨b52, rfl⟩ := hr51
        show uRun _ (uCall Mt _) _ 46 (_, [(.inl (bi b52))], _, _, _)
        refine ur_eqB rfl (fun c53 => ?_) (fun c53 => ?_)
        · refine ur_push rfl ?_
          exact ur_ret rfl rfl (hQ _ _ ⟨_, rfl⟩ hO0 un.rf)
        · refine ur_ldA rfl rfl ?_
          refine ur_get rfl hc1 rfl ?_
          refine ur_ldA rfl rfl ?_
          refine ur_ldA rfl rfl ?_
          refine ur_ldI rfl rfl ?_
          obtain ⟨f55, f56, hc54, k57⟩ := ok_41 hO0
          refine ur_inl rfl (rcv_of hc54) (Nat.le_of_ble_eq_true rfl) (Nat.le_of_ble_eq_true rfl) (sf_X7_leastMove hO0 k22.1 k22.2 g49 k24.2 _ (by show -60 ≤ a3.toInt ∧ a3.toInt ≤ 60; omega) (fun w58 h60 hr59 hO60 hv60 => ?_))
          have hu60 := hv60
          obtain ⟨x61, rfl⟩ := hr59
          show uRun _ (uCall Mt _) _ 61 (_, [(.inl x61)], _, _, _)
          refine ur_go rfl ?_
          exact ur_ret rfl rfl (hQ _ _ ⟨_, rfl⟩ hO60 hu60)
      · have t62 := wi_noL c27 l_m60 l_60
        refine ur_push rfl ?_
        exact ur_ret rfl rfl (hQ _ _ ⟨_, rfl⟩ hO0 un.rf)

set_option maxRecDepth 20000 in
set_option maxHeartbeats 4000000 in
theorem sf_X11_whose {d kc ks : Nat} {h0 : aH} {Q : Option aV → aH → Prop} (hO0 : OK h0) (a1 : Int32) (a2 : Int32) (hQ : ∀ r h', (∃ x, r = some (.inl x)) → OK h' → un [222, 223, 21212] h0 h' → Q r h') : uCall Mt (d + 7) 141 [(.inr (.inr (some 0))), (.inl a1), (.inl a2)] h0 kc ks Q := by
  have l_m2000000000 : ((-2000000000) : Int32).toInt = -2000000000 := by decide
  have l_m120 : ((-120) : Int32).toInt = -120 := by decide
  have l_m1 : ((-1) : Int32).toInt = -1 := by decide
  have l_0 : ((0) : Int32).toInt = 0 := by decide
  have l_1 : ((1) : Int32).toInt = 1 := by decide
  have l_120 : ((120) : Int32).toInt = 120 := by decide
  refine uc_ink [some (.inr (.inr (some 0))), some (.inl a1), some (.inl a2), none, none, none] mt_141 (Nat.le_of_ble_eq_true rfl) rfl ?_
  refine ur_ldA rfl rfl ?_
  obtain ⟨hc1, k2⟩ := ok_0 hO0
  refine ur_get rfl hc1 rfl ?_
  refine ur_ldI rfl rfl ?_
  obtain ⟨f4, f5, f6, f7, hc3, k8⟩ := ok_15 hO0
  refine ur_inl rfl (rcv_of hc3) (Nat.le_of_ble_eq_true rfl) (Nat.le_of_ble_eq_true rfl) (sf_X1_wordAt hO0 _ (fun w9 hr10 => ?_))
  obtain ⟨o11, rfl, k12⟩ := hr10
  show uRun _ (uCall Mt _) _ 8 (_, [(.inr (.inr o11))], _, _, _)
  refine ur_svAk [some (.inr (.inr (some 0))), some (.inl a1), some (.inl a2), some (.inr (.inr o11)), none, none] rfl rfl ?_
  refine ur_ldA rfl rfl ?_
  refine ur_get rfl hc1 rfl ?_
  refine ur_ldI rfl rfl ?_
  obtain ⟨f14, f15, hc13, k16⟩ := ok_1 hO0
  refine ur_inl rfl (rcv_of hc13) (Nat.le_of_ble_eq_true rfl) (Nat.le_of_ble_eq_true rfl) (sf_X6_cometAt hO0 _ (fun w17 hr18 => ?_))
  obtain ⟨o19, rfl, k20⟩ := hr18
  show uRun _ (uCall Mt _) _ 17 (_, [(.inr (.inr o19))], _, _, _)
  refine ur_svAk [some (.inr (.inr (some 0))), some (.inl a1), some (.inl a2), some (.inr (.inr o11)), some (.inr (.inr o19)), none] rfl rfl ?_
  refine ur_ldA rfl rfl ?_
  cases o11 with
  | none =>
    refine ur_nulN rfl ?_
    refine ur_push rfl ?_
    exact ur_ret rfl rfl (hQ _ _ ⟨_, rfl⟩ hO0 un.rf)
  | some r21 =>
    refine ur_nulS rfl ?_
    have k22 := k12 _ rfl
    refine ur_ldA rfl rfl ?_
    cases o19 with
    | none =>
      refine ur_nulN rfl ?_
      refine ur_push rfl ?_
      exact ur_ret rfl rfl (hQ _ _ ⟨_, rfl⟩ hO0 un.rf)
    | some r23 =>
      refine ur_nulS rfl ?_
      have k24 := k20 _ rfl
      refine ur_ldA rfl rfl ?_
      obtain ⟨g45, f26, f27, f28, f29, f30, f31, f32, f33, f34, f35, q36, q37, o38, q39, hc25, k40, k41, k42, k43, k44⟩ := hO0.comet k24.2
      refine ur_get rfl hc25 rfl ?_
      refine ur_svIk [some (.inr (.inr (some 0))), some (.inl a1), some (.inl a2), some (.inr (.inr (some r21))), some (.inr (.inr (some r23))), some (.inl f34)] rfl rfl ?_
      have L47 : ∀ (m48 : Nat) (x46 : Int32) (h50 : aH) , OK h50 → un [222, 223, 21212] h0 h50 → ((-60 ≤ x46.toInt ∧ x46.toInt ≤ 2147483647)) → ((2147483648 - x46.toInt).toNat) < m48 → uRun oX11_whose (uCall Mt (d + 6)) Q 38 ([some (.inr (.inr (some 0))), some (.inl a1), some (.inl a2), some (.inr (.inr (some r21))), some (.inr (.inr (some r23))), some (.inl x46)], [], h50, kc, ks) := by
        intro m48
        induction m48 with
        | zero => intro x46 h50 hO50 hu50 iv51 mm52; omega
        | succ m48 ih49 =>
          intro x46 h50 hO50 hu50 iv51 mm52
          refine ur_ldI rfl rfl ?_
          refine ur_ldA rfl rfl ?_
          obtain ⟨g73, f54, f55, f56, f57, f58, f59, f60, f61, f62, f63, q64, q65, o66, q67, hc53, k68, k69, k70, k71, k72⟩ := hO50.comet (hu50.tm k24.2 (by decide))
          refine ur_get rfl hc53 rfl ?_
          have z74 := any_r x46
          have z75 := any_r f63
          refine ur_if2 rfl (fun c76 => ?_) (fun c76 => ?_)
          · have t77 := lt_to c76
            refine ur_push rfl ?_
            exact ur_ret rfl rfl (hQ _ _ ⟨_, rfl⟩ hO50 hu50)
          · have t78 := lt_no c76
            refine ur_ldA rfl rfl ?_
            refine ur_get rfl (hu50.ko (n := 8) hc1 rfl (wid_f (by decide)) (by decide)) rfl ?_
            refine ur_ldA rfl rfl ?_
            refine ur_ldA rfl rfl ?_
            refine ur_ldI rfl rfl ?_
            refine ur_push rfl ?_
            refine ur_push rfl ?_
            refine ur_push rfl ?_
            obtain ⟨f80, hc79, k81⟩ := ok_8 hO50
            refine ur_inl rfl (rcv_of hc79) (Nat.le_of_ble_eq_true rfl) (Nat.le_of_ble_eq_true rfl) (sf_X5_fitDay hO50 k22.1 (hu50.tm k22.2 (by decide)) g73 (hu50.tm k24.2 (by decide)) _ (by show -60 ≤ x46.toInt ∧ x46.toInt ≤ 60; omega) _ _ _ (fun w82 h84 hr83 hO84 hv84 => ?_))
            have hu84 := hv84
            obtain ⟨x85, rfl⟩ := hr83
            show uRun _ (uCall Mt _) _ 65 (_, [(.inl x85)], _, _, _)
            refine ur_push rfl ?_
            refine ur_if2 rfl (fun c86 => ?_) (fun c86 => ?_)
            · have t87 := eq_to c86
              refine ur_incV (fun z => [some (.inr (.inr (some 0))), some (.inl a1), some (.inl a2), some (.inr (.inr (some r21))), some (.inr (.inr (some r23))), some (.inl z)]) rfl rfl (fun _ => rfl) (fun x88 e89 => ?_)
              have t90 := ti_add e89 (by omega) (by omega)
              refine ur_go rfl ?_
              have z91 := any_r x88
              exact ih49 x88 _ hO84 (hu50.tr hu84) (by omega) (by omega)
            · have t92 := eq_no c86
              refine ur_ldI rfl rfl ?_
              exact ur_ret rfl rfl (hQ _ _ ⟨_, rfl⟩ hO84 (hu50.tr hu84))
      have z93 := any_r f34
      exact L47 _ f34 _ hO0 un.rf (by omega) (Nat.lt_succ_self _)

set_option maxRecDepth 20000 in
set_option maxHeartbeats 4000000 in
theorem sf_X11_behind {d kc ks : Nat} {h0 : aH} {Q : Option aV → aH → Prop} (hO0 : OK h0) (a1 : Int32) (a2 : Int32) (hQ : ∀ r h', (∃ x, r = some (.inl x)) → OK h' → un [222, 223, 21212] h0 h' → Q r h') : uCall Mt (d + 8) 143 [(.inr (.inr (some 0))), (.inl a1), (.inl a2)] h0 kc ks Q := by
  have l_m2 : ((-2) : Int32).toInt = -2 := by decide
  have l_m1 : ((-1) : Int32).toInt = -1 := by decide
  have l_0 : ((0) : Int32).toInt = 0 := by decide
  have l_1 : ((1) : Int32).toInt = 1 := by decide
  have l_100 : ((100) : Int32).toInt = 100 := by decide
  have l_1000 : ((1000) : Int32).toInt = 1000 := by decide
  refine uc_ink [some (.inr (.inr (some 0))), some (.inl a1), some (.inl a2), none, none, none, none, none] mt_143 (Nat.le_of_ble_eq_true rfl) rfl ?_
  refine ur_ldA rfl rfl ?_
  obtain ⟨hc1, k2⟩ := ok_0 hO0
  refine ur_get rfl hc1 rfl ?_
  refine ur_ldI rfl rfl ?_
  obtain ⟨f4, f5, f6, f7, hc3, k8⟩ := ok_15 hO0
  refine ur_inl rfl (rcv_of hc3) (Nat.le_of_ble_eq_true rfl) (Nat.le_of_ble_eq_true rfl) (sf_X1_wordAt hO0 _ (fun w9 hr10 => ?_))
  obtain ⟨o11, rfl, k12⟩ := hr10
  show uRun _ (uCall Mt _) _ 8 (_, [(.inr (.inr o11))], _, _, _)
  refine ur_svAk [some (.inr (.inr (some 0))), some (.inl a1), some (.inl a2), some (.inr (.inr o11)), none, none, none, none] rfl rfl ?_
  refine ur_ldA rfl rfl ?_
  refine ur_get rfl hc1 rfl ?_
  refine ur_ldI rfl rfl ?_
  refine ur_inl rfl (rcv_of hc3) (Nat.le_of_ble_eq_true rfl) (Nat.le_of_ble_eq_true rfl) (sf_X1_wordAt hO0 _ (fun w13 hr14 => ?_))
  obtain ⟨o15, rfl, k16⟩ := hr14
  show uRun _ (uCall Mt _) _ 17 (_, [(.inr (.inr o15))], _, _, _)
  refine ur_svAk [some (.inr (.inr (some 0))), some (.inl a1), some (.inl a2), some (.inr (.inr o11)), some (.inr (.inr o15)), none, none, none] rfl rfl ?_
  refine ur_ldA rfl rfl ?_
  cases o11 with
  | none =>
    refine ur_nulN rfl ?_
    refine ur_push rfl ?_
    exact ur_ret rfl rfl (hQ _ _ ⟨_, rfl⟩ hO0 un.rf)
  | some r17 =>
    refine ur_nulS rfl ?_
    have k18 := k12 _ rfl
    refine ur_ldA rfl rfl ?_
    cases o15 with
    | none =>
      refine ur_nulN rfl ?_
      refine ur_push rfl ?_
      exact ur_ret rfl rfl (hQ _ _ ⟨_, rfl⟩ hO0 un.rf)
    | some r19 =>
      refine ur_nulS rfl ?_
      have k20 := k16 _ rfl
      refine ur_ldI rfl rfl ?_
      refine ur_ldI rfl rfl ?_
      have z21 := any_r a1
      have z22 := any_r a2
      refine ur_if2 rfl (fun c23 => ?_) (fun c23 => ?_)
      · have t24 := ne_to c23
        refine ur_push rfl ?_
        refine ur_svIk [some (.inr (.inr (some 0))), some (.inl a1), some (.inl a2), some (.inr (.inr (some r17))), some (.inr (.inr (some r19))), some (.inl 0), none, none] rfl rfl ?_
        have L28 : ∀ (m29 : Nat) (x25 : Int32) (u26 : Option aV) (u27 : Option aV) (h31 : aH) , OK h31 → un [222, 223, 21212] h0 h31 → ((0 ≤ x25.toInt ∧ x25.toInt ≤ 2147483647)) → ((2147483648 - x25.toInt).toNat) < m29 → uRun oX11_behind (uCall Mt (d + 7)) Q 38 ([some (.inr (.inr (some 0))), some (.inl a1), some (.inl a2), some (.inr (.inr (some r17))), some (.inr (.inr (some r19))), some (.inl x25), u26, u27], [], h31, kc, ks) := by
          intro m29
          induction m29 with
          | zero => intro x25 u26 u27 h31 hO31 hu31 iv32 mm33; omega
          | succ m29 ih30 =>
            intro x25 u26 u27 h31 hO31 hu31 iv32 mm33
            refine ur_ldI rfl rfl ?_
            refine ur_ldA rfl rfl ?_
            refine ur_get rfl (hu31.ko (n := 8) hc1 rfl (wid_f (by decide)) (by decide)) rfl ?_
            obtain ⟨f35, f36, hc34, k37⟩ := ok_1 hO31
            refine ur_get rfl hc34 rfl ?_
            have z38 := any_r x25
            have z39 := any_r f36
            refine ur_if2 rfl (fun c40 => ?_) (fun c40 => ?_)
            · have t41 := le_to c40
              refine ur_push rfl ?_
              exact ur_ret rfl rfl (hQ _ _ ⟨_, rfl⟩ hO31 hu31)
            · have t42 := le_no c40
              refine ur_ldA rfl rfl ?_
              refine ur_get rfl (hu31.ko (n := 8) hc1 rfl (wid_f (by decide)) (by decide)) rfl ?_
              refine ur_ldI rfl rfl ?_
              refine ur_inl rfl (rcv_of hc34) (Nat.le_of_ble_eq_true rfl) (Nat.le_of_ble_eq_true rfl) (sf_X6_cometAt hO31 _ (fun w43 hr44 => ?_))
              obtain ⟨o45, rfl, k46⟩ := hr44
              show uRun _ (uCall Mt _) _ 59 (_, [(.inr (.inr o45))], _, _, _)
              refine ur_svAk [some (.inr (.inr (some 0))), some (.inl a1), some (.inl a2), some (.inr (.inr (some r17))), some (.inr (.inr (some r19))), some (.inl x25), some (.inr (.inr o45)), u27] rfl rfl ?_
              refine ur_ldA rfl rfl ?_
              cases o45 with
              | none =>
                refine ur_nulN rfl ?_
                refine ur_go rfl ?_
                refine ur_incV (fun z => [some (.inr (.inr (some 0))), some (.inl a1), some (.inl a2), some (.inr (.inr (some r17))), some (.inr (.inr (some r19))), some (.inl z), some (.inr (.inr none)), u27]) rfl rfl (fun _ => rfl) (fun x48 e49 => ?_)
                have t50 := ti_add e49 (by omega) (by omega)
                refine ur_go rfl ?_
                have z51 := any_r x48
                exact ih30 x48 _ _ _ hO31 hu31 (by omega) (by omega)
              | some r47 =>
                refine ur_nulS rfl ?_
                have k52 := k46 _ rfl
                refine ur_ldA rfl rfl ?_
                obtain ⟨g73, f54, f55, f56, f57, f58, f59, f60, f61, f62, f63, q64, q65, o66, q67, hc53, k68, k69, k70, k71, k72⟩ := hO31.comet k52.2
                refine ur_get rfl hc53 rfl ?_
                refine ur_svIk [some (.inr (.inr (some 0))), some (.inl a1), some (.inl a2), some (.inr (.inr (some r17))), some (.inr (.inr (some r19))), some (.inl x25), some (.inr (.inr (some r47))), some (.inl f62)] rfl rfl ?_
                have L75 : ∀ (m76 : Nat) (x74 : Int32) (h78 : aH) , OK h78 → un [222, 223, 21212] h31 h78 → ((-60 ≤ x74.toInt ∧ x74.toInt ≤ 2147483647)) → ((2147483648 - x74.toInt).toNat) < m76 → uRun oX11_behind (uCall Mt (d + 7)) Q 76 ([some (.inr (.inr (some 0))), some (.inl a1), some (.inl a2), some (.inr (.inr (some r17))), some (.inr (.inr (some r19))), some (.inl x25), some (.inr (.inr (some r47))), some (.inl x74)], [], h78, kc, ks) := by
                  intro m76
                  induction m76 with
                  | zero => intro x74 h78 hO78 hu78 iv79 mm80; omega
                  | succ m76 ih77 =>
                    intro x74 h78 hO78 hu78 iv79 mm80
                    refine ur_ldI rfl rfl ?_
                    refine ur_ldA rfl rfl ?_
                    obtain ⟨g101, f82, f83, f84, f85, f86, f87, f88, f89, f90, f91, q92, q93, o94, q95, hc81, k96, k97, k98, k99, k100⟩ := hO78.comet (hu78.tm k52.2 (by decide))
                    refine ur_get rfl hc81 rfl ?_
                    have z102 := any_r x74
                    have z103 := any_r f91
                    refine ur_if2 rfl (fun c104 => ?_) (fun c104 => ?_)
                    · have t105 := lt_to c104
                      refine ur_incV (fun z => [some (.inr (.inr (some 0))), some (.inl a1), some (.inl a2), some (.inr (.inr (some r17))), some (.inr (.inr (some r19))), some (.inl z), some (.inr (.inr (some r47))), some (.inl x74)]) rfl rfl (fun _ => rfl) (fun x106 e107 => ?_)
                      have t108 := ti_add e107 (by omega) (by omega)
                      refine ur_go rfl ?_
                      have z109 := any_r x106
                      exact ih30 x106 _ _ _ hO78 (hu31.tr hu78) (by omega) (by omega)
                    · have t110 := lt_no c104
                      refine ur_ldA rfl rfl ?_
                      refine ur_get rfl (hu78.ko (n := 8) (hu31.ko (n := 8) hc1 rfl (wid_f (by decide)) (by decide)) rfl (wid_f (by decide)) (by decide)) rfl ?_
                      refine ur_ldA rfl rfl ?_
                      refine ur_ldA rfl rfl ?_
                      refine ur_ldA rfl rfl ?_
                      refine ur_ldI rfl rfl ?_
                      obtain ⟨f112, hc111, k113⟩ := ok_8 hO78
                      refine ur_inl rfl (rcv_of hc111) (Nat.le_of_ble_eq_true rfl) (Nat.le_of_ble_eq_true rfl) (sf_X5_goneBehind hO78 k18.1 (hu78.tm (hu31.tm k18.2 (by decide)) (by decide)) k20.1 (hu78.tm (hu31.tm k20.2 (by decide)) (by decide)) g101 (hu78.tm k52.2 (by decide)) _ (by show -60 ≤ x74.toInt ∧ x74.toInt ≤ 60; omega) (fun w114 h116 hr115 hO116 hv116 => ?_))
                      have hu116 := hv116
                      obtain ⟨b117, rfl⟩ := hr115
                      show uRun _ (uCall Mt _) _ 100 (_, [(.inl (bi b117))], _, _, _)
                      refine ur_neB rfl (fun c118 => ?_) (fun c118 => ?_)
                      · refine ur_push rfl ?_
                        refine ur_ldI rfl rfl ?_
                        refine ur_binV rfl (fun x119 e120 => ?_)
                        have t121 := ti_mulR e120 l_1000 (by omega) (by omega)
                        refine ur_push rfl ?_
                        refine ur_binV rfl (fun x122 e123 => ?_)
                        have z124 := any_r x119
                        have t125 := ti_add e123 (by omega) (by omega)
                        refine ur_ldI rfl rfl ?_
                        refine ur_binV rfl (fun x126 e127 => ?_)
                        have z128 := any_r x122
                        have t129 := ti_add e127 (by omega) (by omega)
                        exact ur_ret rfl rfl (hQ _ _ ⟨_, rfl⟩ hO116 (hu31.tr (hu78.tr hu116)))
                      · refine ur_ldA rfl rfl ?_
                        refine ur_get rfl (hv116.ko (n := 8) (hu78.ko (n := 8) (hu31.ko (n := 8) hc1 rfl (wid_f (by decide)) (by decide)) rfl (wid_f (by decide)) (by decide)) rfl (wid_f (by decide)) (by decide)) rfl ?_
                        refine ur_ldA rfl rfl ?_
                        refine ur_ldA rfl rfl ?_
                        refine ur_ldA rfl rfl ?_
                        refine ur_ldI rfl rfl ?_
                        refine ur_inl rfl (rcv_of (hv116.ko (n := 5) hc111 rfl (wid_f (by decide)) (by decide))) (Nat.le_of_ble_eq_true rfl) (Nat.le_of_ble_eq_true rfl) (sf_X5_goneBehind hO116 k20.1 (hu116.tm (hu78.tm (hu31.tm k20.2 (by decide)) (by decide)) (by decide)) k18.1 (hu116.tm (hu78.tm (hu31.tm k18.2 (by decide)) (by decide)) (by decide)) g101 (hu116.tm (hu78.tm k52.2 (by decide)) (by decide)) _ (by show -60 ≤ x74.toInt ∧ x74.toInt ≤ 60; omega) (fun w130 h132 hr131 hO132 hv132 => ?_))
                        have hu132 := hv132
                        obtain ⟨b133, rfl⟩ := hr131
                        show uRun _ (uCall Mt _) _ 117 (_, [(.inl (bi b133))], _, _, _)
                        refine ur_eqB rfl (fun c134 => ?_) (fun c134 => ?_)
                        · refine ur_incV (fun z => [some (.inr (.inr (some 0))), some (.inl a1), some (.inl a2), some (.inr (.inr (some r17))), some (.inr (.inr (some r19))), some (.inl x25), some (.inr (.inr (some r47))), some (.inl z)]) rfl rfl (fun _ => rfl) (fun x135 e136 => ?_)
                          have t137 := ti_add e136 (by omega) (by omega)
                          refine ur_go rfl ?_
                          have z138 := any_r x135
                          exact ih77 x135 _ hO132 (hu78.tr (hu116.tr hu132)) (by omega) (by omega)
                        · refine ur_push rfl ?_
                          refine ur_ldI rfl rfl ?_
                          refine ur_binV rfl (fun x139 e140 => ?_)
                          have t141 := ti_mulR e140 l_1000 (by omega) (by omega)
                          refine ur_push rfl ?_
                          refine ur_binV rfl (fun x142 e143 => ?_)
                          have z144 := any_r x139
                          have t145 := ti_add e143 (by omega) (by omega)
                          refine ur_ldI rfl rfl ?_
                          refine ur_binV rfl (fun x146 e147 => ?_)
                          have z148 := any_r x142
                          have t149 := ti_add e147 (by omega) (by omega)
                          exact ur_ret rfl rfl (hQ _ _ ⟨_, rfl⟩ hO132 (hu31.tr (hu78.tr (hu116.tr hu132))))
                have z150 := any_r f62
                exact L75 _ f62 _ hO31 un.rf (by omega) (Nat.lt_succ_self _)
        exact L28 _ 0 (none) (none) _ hO0 un.rf (by omega) (Nat.lt_succ_self _)
      · have t151 := ne_no c23
        refine ur_push rfl ?_
        exact ur_ret rfl rfl (hQ _ _ ⟨_, rfl⟩ hO0 un.rf)

set_option maxRecDepth 20000 in
set_option maxHeartbeats 4000000 in
theorem sf_X11_judge {d kc ks : Nat} {h0 : aH} {Q : Option aV → aH → Prop} (hO0 : OK h0) (a1 : Int32) (hQ : ∀ r h', (∃ x, r = some (.inl x)) → OK h' → un [45, 46, 222, 223, 21212] h0 h' → Q r h') : uCall Mt (d + 8) 145 [(.inr (.inr (some 0))), (.inl a1)] h0 kc ks Q := by
  have l_m2000000000 : ((-2000000000) : Int32).toInt = -2000000000 := by decide
  have l_0 : ((0) : Int32).toInt = 0 := by decide
  have l_1 : ((1) : Int32).toInt = 1 := by decide
  refine uc_ink [some (.inr (.inr (some 0))), some (.inl a1), none] mt_145 (Nat.le_of_ble_eq_true rfl) rfl ?_
  refine ur_ldI rfl rfl ?_
  refine ur_push rfl ?_
  refine ur_push rfl ?_
  refine ur_ldA rfl rfl ?_
  obtain ⟨hc1, k2⟩ := ok_0 hO0
  refine ur_get rfl hc1 rfl ?_
  obtain ⟨f4, f5, hc3, k6⟩ := ok_1 hO0
  refine ur_get rfl hc3 rfl ?_
  refine ur_binV rfl (fun x7 e8 => ?_)
  refine ur_push rfl ?_
  refine ur_binV rfl (fun x9 e10 => ?_)
  have z11 := any_r x7
  refine ur_callv rfl rfl (Nat.le_of_ble_eq_true rfl) (Nat.le_of_ble_eq_true rfl) rfl (sp_within _ _ _ _ _) ?_
  refine ur_neB rfl (fun c14 => ?_) (fun c14 => ?_)
  · have t15 := wi_to c14
    refine ur_push rfl ?_
    refine ur_svIk [some (.inr (.inr (some 0))), some (.inl a1), some (.inl 0)] rfl rfl ?_
    have L17 : ∀ (m18 : Nat) (x16 : Int32) (h20 : aH) , OK h20 → un [45, 46, 222, 223, 21212] h0 h20 → ((0 ≤ x16.toInt ∧ x16.toInt ≤ 2147483647)) → ((2147483648 - x16.toInt).toNat) < m18 → uRun oX11_judge (uCall Mt (d + 7)) Q 24 ([some (.inr (.inr (some 0))), some (.inl a1), some (.inl x16)], [], h20, kc, ks) := by
      intro m18
      induction m18 with
      | zero => intro x16 h20 hO20 hu20 iv21 mm22; omega
      | succ m18 ih19 =>
        intro x16 h20 hO20 hu20 iv21 mm22
        refine ur_ldI rfl rfl ?_
        refine ur_ldA rfl rfl ?_
        refine ur_get rfl (hu20.ko (n := 8) hc1 rfl (wid_f (by decide)) (by decide)) rfl ?_
        refine ur_get rfl (hu20.ko (n := 5) hc3 rfl (wid_f (by decide)) (by decide)) rfl ?_
        have z23 := any_r x16
        have z24 := any_r f5
        refine ur_if2 rfl (fun c25 => ?_) (fun c25 => ?_)
        · have t26 := le_to c25
          refine ur_ldA rfl rfl ?_
          refine ur_get rfl (hu20.ko (n := 8) hc1 rfl (wid_f (by decide)) (by decide)) rfl ?_
          refine ur_ldI rfl rfl ?_
          obtain ⟨f28, f29, hc27, k30⟩ := ok_41 hO20
          refine ur_inl rfl (rcv_of hc27) (Nat.le_of_ble_eq_true rfl) (Nat.le_of_ble_eq_true rfl) (sf_X7_worthOf hO20 _ (fun w31 hr32 => ?_))
          obtain ⟨x33, rfl⟩ := hr32
          show uRun _ (uCall Mt _) _ 66 (_, [(.inl x33)], _, _, _)
          exact ur_ret rfl rfl (hQ _ _ ⟨_, rfl⟩ hO20 hu20)
        · have t34 := le_no c25
          refine ur_ldI rfl rfl ?_
          refine ur_ldI rfl rfl ?_
          refine ur_binV rfl (fun x35 e36 => ?_)
          have z37 := any_r a1
          refine ur_push rfl ?_
          refine ur_binV rfl (fun x38 e39 => ?_)
          have t40 := and_1 e39
          refine ur_push rfl ?_
          refine ur_if2 rfl (fun c41 => ?_) (fun c41 => ?_)
          · have t42 := ne_to c41
            refine ur_incV (fun z => [some (.inr (.inr (some 0))), some (.inl a1), some (.inl z)]) rfl rfl (fun _ => rfl) (fun x43 e44 => ?_)
            have t45 := ti_add e44 (by omega) (by omega)
            refine ur_go rfl ?_
            have z46 := any_r x43
            exact ih19 x43 _ hO20 hu20 (by omega) (by omega)
          · have t47 := ne_no c41
            refine ur_ldA rfl rfl ?_
            refine ur_get rfl (hu20.ko (n := 8) hc1 rfl (wid_f (by decide)) (by decide)) rfl ?_
            refine ur_ldI rfl rfl ?_
            obtain ⟨f49, f50, hc48, k51⟩ := ok_41 hO20
            refine ur_inl rfl (rcv_of hc48) (Nat.le_of_ble_eq_true rfl) (Nat.le_of_ble_eq_true rfl) (sf_X7_weighComet hO20 _ (fun w52 h54 hr53 hO54 hv54 => ?_))
            have hu54 := hv54
            subst hr53
            show uRun _ (uCall Mt _) _ 52 (_, [], _, _, _)
            refine ur_incV (fun z => [some (.inr (.inr (some 0))), some (.inl a1), some (.inl z)]) rfl rfl (fun _ => rfl) (fun x55 e56 => ?_)
            have t57 := ti_add e56 (by omega) (by omega)
            refine ur_go rfl ?_
            have z58 := any_r x55
            exact ih19 x55 _ hO54 (hu20.tr hu54) (by omega) (by omega)
    exact L17 _ 0 _ hO0 un.rf (by omega) (Nat.lt_succ_self _)
  · have t59 := wi_no c14
    refine ur_push rfl ?_
    exact ur_ret rfl rfl (hQ _ _ ⟨_, rfl⟩ hO0 un.rf)

set_option maxRecDepth 20000 in
set_option maxHeartbeats 4000000 in
theorem sf_X11_best {d kc ks : Nat} {h0 : aH} {Q : Option aV → aH → Prop} (hO0 : OK h0) (a1 : Int32) (hQ : ∀ r h', (∃ x, r = some (.inl x)) → OK h' → un [45, 46, 222, 223, 21212] h0 h' → Q r h') : uCall Mt (d + 8) 146 [(.inr (.inr (some 0))), (.inl a1)] h0 kc ks Q := by
  have l_m2000000000 : ((-2000000000) : Int32).toInt = -2000000000 := by decide
  have l_0 : ((0) : Int32).toInt = 0 := by decide
  have l_1 : ((1) : Int32).toInt = 1 := by decide
  have l_6 : ((6) : Int32).toInt = 6 := by decide
  refine uc_ink [some (.inr (.inr (some 0))), some (.inl a1), none, none] mt_146 (Nat.le_of_ble_eq_true rfl) rfl ?_
  refine ur_ldI rfl rfl ?_
  refine ur_push rfl ?_
  refine ur_push rfl ?_
  refine ur_callv rfl rfl (Nat.le_of_ble_eq_true rfl) (Nat.le_of_ble_eq_true rfl) rfl (sp_within _ _ _ _ _) ?_
  refine ur_neB rfl (fun c3 => ?_) (fun c3 => ?_)
  · have t4 := wi_toL c3 l_0 l_1
    refine ur_ldA rfl rfl ?_
    obtain ⟨hc5, k6⟩ := ok_0 hO0
    refine ur_get rfl hc5 rfl ?_
    obtain ⟨f8, f9, hc7, k10⟩ := ok_1 hO0
    refine ur_get rfl hc7 rfl ?_
    refine ur_push rfl ?_
    refine ur_minV rfl (by show ¬ 9 ≤ 2; decide) (fun x11 t12 e13 => ?_)
    refine ur_svIk [some (.inr (.inr (some 0))), some (.inl a1), some (.inl x11), none] rfl rfl ?_
    refine ur_push rfl ?_
    refine ur_svIk [some (.inr (.inr (some 0))), some (.inl a1), some (.inl x11), some (.inl 0)] rfl rfl ?_
    have L15 : ∀ (m16 : Nat) (x14 : Int32) (h18 : aH) , OK h18 → un [45, 46, 222, 223, 21212] h0 h18 → ((0 ≤ x14.toInt ∧ x14.toInt ≤ 2147483647)) → ((2147483648 - x14.toInt).toNat) < m16 → uRun oX11_best (uCall Mt (d + 7)) Q 27 ([some (.inr (.inr (some 0))), some (.inl a1), some (.inl x11), some (.inl x14)], [], h18, kc, ks) := by
      intro m16
      induction m16 with
      | zero => intro x14 h18 hO18 hu18 iv19 mm20; omega
      | succ m16 ih17 =>
        intro x14 h18 hO18 hu18 iv19 mm20
        refine ur_ldI rfl rfl ?_
        refine ur_ldI rfl rfl ?_
        have z21 := any_r x14
        have z22 := any_r x11
        refine ur_if2 rfl (fun c23 => ?_) (fun c23 => ?_)
        · have t24 := le_to c23
          refine ur_ldA rfl rfl ?_
          refine ur_get rfl (hu18.ko (n := 8) hc5 rfl (wid_f (by decide)) (by decide)) rfl ?_
          refine ur_ldI rfl rfl ?_
          obtain ⟨f26, f27, hc25, k28⟩ := ok_41 hO18
          refine ur_inl rfl (rcv_of hc25) (Nat.le_of_ble_eq_true rfl) (Nat.le_of_ble_eq_true rfl) (sf_X7_bestSetOf hO18 _ (fun w29 hr30 => ?_))
          obtain ⟨x31, rfl⟩ := hr30
          show uRun _ (uCall Mt _) _ 54 (_, [(.inl x31)], _, _, _)
          refine ur_svIk [some (.inr (.inr (some 0))), some (.inl a1), some (.inl x11), some (.inl x31)] rfl rfl ?_
          refine ur_ldI rfl rfl ?_
          refine ur_if1 rfl (fun c32 => ?_) (fun c32 => ?_)
          · have t33 := ne_to c32
            refine ur_ldA rfl rfl ?_
            refine ur_get rfl (hu18.ko (n := 8) hc5 rfl (wid_f (by decide)) (by decide)) rfl ?_
            refine ur_ldI rfl rfl ?_
            refine ur_inl rfl (rcv_of hc25) (Nat.le_of_ble_eq_true rfl) (Nat.le_of_ble_eq_true rfl) (sf_X7_worthOf hO18 _ (fun w34 hr35 => ?_))
            obtain ⟨x36, rfl⟩ := hr35
            show uRun _ (uCall Mt _) _ 71 (_, [(.inl x36)], _, _, _)
            exact ur_ret rfl rfl (hQ _ _ ⟨_, rfl⟩ hO18 hu18)
          · have t37 := ne_no c32
            refine ur_ldI rfl rfl ?_
            refine ur_go rfl ?_
            exact ur_ret rfl rfl (hQ _ _ ⟨_, rfl⟩ hO18 hu18)
        · have t38 := le_no c23
          refine ur_ldA rfl rfl ?_
          refine ur_get rfl (hu18.ko (n := 8) hc5 rfl (wid_f (by decide)) (by decide)) rfl ?_
          refine ur_ldI rfl rfl ?_
          obtain ⟨f40, f41, hc39, k42⟩ := ok_41 hO18
          refine ur_inl rfl (rcv_of hc39) (Nat.le_of_ble_eq_true rfl) (Nat.le_of_ble_eq_true rfl) (sf_X7_weighComet hO18 _ (fun w43 h45 hr44 hO45 hv45 => ?_))
          have hu45 := hv45
          subst hr44
          show uRun _ (uCall Mt _) _ 40 (_, [], _, _, _)
          refine ur_incV (fun z => [some (.inr (.inr (some 0))), some (.inl a1), some (.inl x11), some (.inl z)]) rfl rfl (fun _ => rfl) (fun x46 e47 => ?_)
          have t48 := ti_add e47 (by omega) (by omega)
          refine ur_go rfl ?_
          have z49 := any_r x46
          exact ih17 x46 _ hO45 (hu18.tr hu45) (by omega) (by omega)
    exact L15 _ 0 _ hO0 un.rf (by omega) (Nat.lt_succ_self _)
  · have t50 := wi_noL c3 l_0 l_1
    refine ur_push rfl ?_
    exact ur_ret rfl rfl (hQ _ _ ⟨_, rfl⟩ hO0 un.rf)

set_option maxRecDepth 20000 in
set_option maxHeartbeats 4000000 in
theorem sf_X11_right {d kc ks : Nat} {h0 : aH} {Q : Option aV → aH → Prop} (hO0 : OK h0) (a1 : Int32) (a2 : Int32) (a3 : Int32) (hQ : ∀ r h', (∃ x, r = some (.inl x)) → OK h' → un [222, 223, 21212] h0 h' → Q r h') : uCall Mt (d + 8) 153 [(.inr (.inr (some 0))), (.inl a1), (.inl a2), (.inl a3)] h0 kc ks Q := by
  have l_m2000000000 : ((-2000000000) : Int32).toInt = -2000000000 := by decide
  have l_0 : ((0) : Int32).toInt = 0 := by decide
  have l_1 : ((1) : Int32).toInt = 1 := by decide
  have l_3 : ((3) : Int32).toInt = 3 := by decide
  have l_8 : ((8) : Int32).toInt = 8 := by decide
  refine uc_ink [some (.inr (.inr (some 0))), some (.inl a1), some (.inl a2), some (.inl a3), none, none, none] mt_153 (Nat.le_of_ble_eq_true rfl) rfl ?_
  refine ur_ldA rfl rfl ?_
  obtain ⟨hc1, k2⟩ := ok_0 hO0
  refine ur_get rfl hc1 rfl ?_
  refine ur_ldI rfl rfl ?_
  obtain ⟨f4, f5, hc3, k6⟩ := ok_1 hO0
  refine ur_inl rfl (rcv_of hc3) (Nat.le_of_ble_eq_true rfl) (Nat.le_of_ble_eq_true rfl) (sf_X6_cometAt hO0 _ (fun w7 hr8 => ?_))
  obtain ⟨o9, rfl, k10⟩ := hr8
  show uRun _ (uCall Mt _) _ 8 (_, [(.inr (.inr o9))], _, _, _)
  refine ur_svAk [some (.inr (.inr (some 0))), some (.inl a1), some (.inl a2), some (.inl a3), some (.inr (.inr o9)), none, none] rfl rfl ?_
  refine ur_ldA rfl rfl ?_
  cases o9 with
  | none =>
    refine ur_nulN rfl ?_
    refine ur_push rfl ?_
    exact ur_ret rfl rfl (hQ _ _ ⟨_, rfl⟩ hO0 un.rf)
  | some r11 =>
    refine ur_nulS rfl ?_
    have k12 := k10 _ rfl
    refine ur_ldI rfl rfl ?_
    refine ur_callv rfl rfl (Nat.le_of_ble_eq_true rfl) (Nat.le_of_ble_eq_true rfl) rfl (sp_isPpl _ _) ?_
    refine ur_eqB rfl (fun c15 => ?_) (fun c15 => ?_)
    · have t16 := wi_noL c15 l_0 l_8
      refine ur_push rfl ?_
      exact ur_ret rfl rfl (hQ _ _ ⟨_, rfl⟩ hO0 un.rf)
    · have t17 := wi_toL c15 l_0 l_8
      refine ur_ldI rfl rfl ?_
      refine ur_push rfl ?_
      refine ur_push rfl ?_
      refine ur_callv rfl rfl (Nat.le_of_ble_eq_true rfl) (Nat.le_of_ble_eq_true rfl) rfl (sp_within _ _ _ _ _) ?_
      refine ur_neB rfl (fun c20 => ?_) (fun c20 => ?_)
      · have t21 := wi_toL c20 l_0 l_1
        refine ur_ldA rfl rfl ?_
        refine ur_get rfl hc1 rfl ?_
        obtain ⟨f23, f24, hc22, k25⟩ := ok_41 hO0
        refine ur_inl rfl (rcv_of hc22) (Nat.le_of_ble_eq_true rfl) (Nat.le_of_ble_eq_true rfl) (sf_X7_forgetMoves hO0  (fun w26 h28 hr27 hO28 hv28 => ?_))
        have hu28 : un [222, 223, 21212] h0 h28 := hv28.mono (by decide)
        subst hr27
        show uRun _ (uCall Mt _) _ 41 (_, [], _, _, _)
        refine ur_push rfl ?_
        refine ur_svIk [some (.inr (.inr (some 0))), some (.inl a1), some (.inl a2), some (.inl a3), some (.inr (.inr (some r11))), some (.inl 0), none] rfl rfl ?_
        have L31 : ∀ (m32 : Nat) (x29 : Int32) (u30 : Option aV) (h34 : aH) , OK h34 → un [222, 223, 21212] h28 h34 → ((0 ≤ x29.toInt ∧ x29.toInt ≤ 2147483647)) → ((2147483648 - x29.toInt).toNat) < m32 → uRun oX11_right (uCall Mt (d + 7)) Q 44 ([some (.inr (.inr (some 0))), some (.inl a1), some (.inl a2), some (.inl a3), some (.inr (.inr (some r11))), some (.inl x29), u30], [], h34, kc, ks) := by
          intro m32
          induction m32 with
          | zero => intro x29 u30 h34 hO34 hu34 iv35 mm36; omega
          | succ m32 ih33 =>
            intro x29 u30 h34 hO34 hu34 iv35 mm36
            refine ur_ldI rfl rfl ?_
            refine ur_ldA rfl rfl ?_
            refine ur_get rfl (hu34.ko (n := 8) (hv28.ko (n := 8) hc1 rfl (wid_f (by decide)) (by decide)) rfl (wid_f (by decide)) (by decide)) rfl ?_
            obtain ⟨f38, f39, f40, f41, hc37, k42⟩ := ok_15 hO34
            refine ur_get rfl hc37 rfl ?_
            have z43 := any_r x29
            have z44 := any_r f38
            refine ur_if2 rfl (fun c45 => ?_) (fun c45 => ?_)
            · have t46 := le_to c45
              refine ur_ldA rfl rfl ?_
              refine ur_get rfl (hu34.ko (n := 8) (hv28.ko (n := 8) hc1 rfl (wid_f (by decide)) (by decide)) rfl (wid_f (by decide)) (by decide)) rfl ?_
              refine ur_ldI rfl rfl ?_
              obtain ⟨f48, f49, hc47, k50⟩ := ok_41 hO34
              refine ur_inl rfl (rcv_of hc47) (Nat.le_of_ble_eq_true rfl) (Nat.le_of_ble_eq_true rfl) (sf_X7_bestMove hO34 _ (fun w51 hr52 => ?_))
              obtain ⟨x53, rfl⟩ := hr52
              show uRun _ (uCall Mt _) _ 115 (_, [(.inl x53)], _, _, _)
              exact ur_ret rfl rfl (hQ _ _ ⟨_, rfl⟩ hO34 (hu28.tr hu34))
            · have t54 := le_no c45
              refine ur_ldA rfl rfl ?_
              refine ur_get rfl (hu34.ko (n := 8) (hv28.ko (n := 8) hc1 rfl (wid_f (by decide)) (by decide)) rfl (wid_f (by decide)) (by decide)) rfl ?_
              refine ur_ldI rfl rfl ?_
              refine ur_inl rfl (rcv_of hc37) (Nat.le_of_ble_eq_true rfl) (Nat.le_of_ble_eq_true rfl) (sf_X1_wordAt hO34 _ (fun w55 hr56 => ?_))
              obtain ⟨o57, rfl, k58⟩ := hr56
              show uRun _ (uCall Mt _) _ 65 (_, [(.inr (.inr o57))], _, _, _)
              refine ur_svAk [some (.inr (.inr (some 0))), some (.inl a1), some (.inl a2), some (.inl a3), some (.inr (.inr (some r11))), some (.inl x29), some (.inr (.inr o57))] rfl rfl ?_
              refine ur_ldA rfl rfl ?_
              cases o57 with
              | none =>
                refine ur_nulN rfl ?_
                refine ur_incV (fun z => [some (.inr (.inr (some 0))), some (.inl a1), some (.inl a2), some (.inl a3), some (.inr (.inr (some r11))), some (.inl z), some (.inr (.inr none))]) rfl rfl (fun _ => rfl) (fun x60 e61 => ?_)
                have t62 := ti_add e61 (by omega) (by omega)
                refine ur_go rfl ?_
                have z63 := any_r x60
                exact ih33 x60 _ _ hO34 hu34 (by omega) (by omega)
              | some r59 =>
                refine ur_nulS rfl ?_
                have k64 := k58 _ rfl
                refine ur_ldA rfl rfl ?_
                obtain ⟨g81, f66, f67, f68, f69, f70, f71, f72, f73, f74, o78, f75, f76, f77, hc65, k79, k80⟩ := hO34.word k64.2
                refine ur_get rfl hc65 rfl ?_
                refine ur_ldI rfl rfl ?_
                have z82 := any_r f68
                have z83 := any_r a1
                refine ur_if2 rfl (fun c84 => ?_) (fun c84 => ?_)
                · have t85 := ne_to c84
                  refine ur_incV (fun z => [some (.inr (.inr (some 0))), some (.inl a1), some (.inl a2), some (.inl a3), some (.inr (.inr (some r11))), some (.inl z), some (.inr (.inr (some r59)))]) rfl rfl (fun _ => rfl) (fun x86 e87 => ?_)
                  have t88 := ti_add e87 (by omega) (by omega)
                  refine ur_go rfl ?_
                  have z89 := any_r x86
                  exact ih33 x86 _ _ hO34 hu34 (by omega) (by omega)
                · have t90 := ne_no c84
                  refine ur_ldA rfl rfl ?_
                  refine ur_get rfl hc65 rfl ?_
                  refine ur_push rfl ?_
                  refine ur_if2 rfl (fun c91 => ?_) (fun c91 => ?_)
                  · have t92 := eq_to c91
                    refine ur_incV (fun z => [some (.inr (.inr (some 0))), some (.inl a1), some (.inl a2), some (.inl a3), some (.inr (.inr (some r11))), some (.inl z), some (.inr (.inr (some r59)))]) rfl rfl (fun _ => rfl) (fun x93 e94 => ?_)
                    have t95 := ti_add e94 (by omega) (by omega)
                    refine ur_go rfl ?_
                    have z96 := any_r x93
                    exact ih33 x93 _ _ hO34 hu34 (by omega) (by omega)
                  · have t97 := eq_no c91
                    refine ur_ldA rfl rfl ?_
                    refine ur_get rfl (hu34.ko (n := 8) (hv28.ko (n := 8) hc1 rfl (wid_f (by decide)) (by decide)) rfl (wid_f (by decide)) (by decide)) rfl ?_
                    refine ur_ldA rfl rfl ?_
                    refine ur_ldA rfl rfl ?_
                    obtain ⟨f99, f100, hc98, k101⟩ := ok_41 hO34
                    refine ur_inl rfl (rcv_of hc98) (Nat.le_of_ble_eq_true rfl) (Nat.le_of_ble_eq_true rfl) (sf_X7_countMovesOf hO34 g81 k64.2 k12.1 (hu34.tm (hu28.tm k12.2 (by decide)) (by decide)) (fun w102 h104 hr103 hO104 hv104 => ?_))
                    have hu104 := hv104
                    subst hr103
                    show uRun _ (uCall Mt _) _ 101 (_, [], _, _, _)
                    refine ur_incV (fun z => [some (.inr (.inr (some 0))), some (.inl a1), some (.inl a2), some (.inl a3), some (.inr (.inr (some r11))), some (.inl z), some (.inr (.inr (some r59)))]) rfl rfl (fun _ => rfl) (fun x105 e106 => ?_)
                    have t107 := ti_add e106 (by omega) (by omega)
                    refine ur_go rfl ?_
                    have z108 := any_r x105
                    exact ih33 x105 _ _ hO104 (hu34.tr hu104) (by omega) (by omega)
        exact L31 _ 0 (none) _ hO28 un.rf (by omega) (Nat.lt_succ_self _)
      · have t109 := wi_noL c20 l_0 l_1
        refine ur_push rfl ?_
        exact ur_ret rfl rfl (hQ _ _ ⟨_, rfl⟩ hO0 un.rf)

set_option maxRecDepth 20000 in
set_option maxHeartbeats 4000000 in
theorem sf_X11_next {d kc ks : Nat} {h0 : aH} {Q : Option aV → aH → Prop} (hO0 : OK h0) (a1 : Int32) (a2 : Int32) (a3 : Int32) (hQ : ∀ r h', (∃ x, r = some (.inl x)) → OK h' → un [222, 223, 21212] h0 h' → Q r h') : uCall Mt (d + 8) 156 [(.inr (.inr (some 0))), (.inl a1), (.inl a2), (.inl a3)] h0 kc ks Q := by
  have l_m2 : ((-2) : Int32).toInt = -2 := by decide
  have l_m1 : ((-1) : Int32).toInt = -1 := by decide
  have l_0 : ((0) : Int32).toInt = 0 := by decide
  have l_1 : ((1) : Int32).toInt = 1 := by decide
  have l_9 : ((9) : Int32).toInt = 9 := by decide
  refine uc_ink [some (.inr (.inr (some 0))), some (.inl a1), some (.inl a2), some (.inl a3), none, none, none] mt_156 (Nat.le_of_ble_eq_true rfl) rfl ?_
  refine ur_ldA rfl rfl ?_
  obtain ⟨hc1, k2⟩ := ok_0 hO0
  refine ur_get rfl hc1 rfl ?_
  refine ur_ldI rfl rfl ?_
  obtain ⟨f4, f5, hc3, k6⟩ := ok_1 hO0
  refine ur_inl rfl (rcv_of hc3) (Nat.le_of_ble_eq_true rfl) (Nat.le_of_ble_eq_true rfl) (sf_X6_cometAt hO0 _ (fun w7 hr8 => ?_))
  obtain ⟨o9, rfl, k10⟩ := hr8
  show uRun _ (uCall Mt _) _ 8 (_, [(.inr (.inr o9))], _, _, _)
  refine ur_svAk [some (.inr (.inr (some 0))), some (.inl a1), some (.inl a2), some (.inl a3), some (.inr (.inr o9)), none, none] rfl rfl ?_
  refine ur_ldA rfl rfl ?_
  refine ur_get rfl hc1 rfl ?_
  refine ur_ldI rfl rfl ?_
  refine ur_inl rfl (rcv_of hc3) (Nat.le_of_ble_eq_true rfl) (Nat.le_of_ble_eq_true rfl) (sf_X6_cometAt hO0 _ (fun w11 hr12 => ?_))
  obtain ⟨o13, rfl, k14⟩ := hr12
  show uRun _ (uCall Mt _) _ 18 (_, [(.inr (.inr o13))], _, _, _)
  refine ur_svAk [some (.inr (.inr (some 0))), some (.inl a1), some (.inl a2), some (.inl a3), some (.inr (.inr o9)), some (.inr (.inr o13)), none] rfl rfl ?_
  refine ur_ldA rfl rfl ?_
  cases o9 with
  | none =>
    refine ur_nulN rfl ?_
    refine ur_push rfl ?_
    exact ur_ret rfl rfl (hQ _ _ ⟨_, rfl⟩ hO0 un.rf)
  | some r15 =>
    refine ur_nulS rfl ?_
    have k16 := k10 _ rfl
    refine ur_ldA rfl rfl ?_
    cases o13 with
    | none =>
      refine ur_nulN rfl ?_
      refine ur_push rfl ?_
      exact ur_ret rfl rfl (hQ _ _ ⟨_, rfl⟩ hO0 un.rf)
    | some r17 =>
      refine ur_nulS rfl ?_
      have k18 := k14 _ rfl
      refine ur_ldI rfl rfl ?_
      refine ur_ldI rfl rfl ?_
      have z19 := any_r a1
      have z20 := any_r a2
      refine ur_if2 rfl (fun c21 => ?_) (fun c21 => ?_)
      · have t22 := eq_to c21
        refine ur_push rfl ?_
        exact ur_ret rfl rfl (hQ _ _ ⟨_, rfl⟩ hO0 un.rf)
      · have t23 := eq_no c21
        refine ur_ldI rfl rfl ?_
        refine ur_push rfl ?_
        refine ur_push rfl ?_
        refine ur_callv rfl rfl (Nat.le_of_ble_eq_true rfl) (Nat.le_of_ble_eq_true rfl) rfl (sp_within _ _ _ _ _) ?_
        refine ur_neB rfl (fun c26 => ?_) (fun c26 => ?_)
        · have t27 := wi_toL c26 l_0 l_1
          refine ur_ldA rfl rfl ?_
          refine ur_get rfl hc1 rfl ?_
          refine ur_ldA rfl rfl ?_
          refine ur_ldA rfl rfl ?_
          obtain ⟨f29, f30, hc28, k31⟩ := ok_41 hO0
          refine ur_inl rfl (rcv_of hc28) (Nat.le_of_ble_eq_true rfl) (Nat.le_of_ble_eq_true rfl) (sf_X7_nextToLookFor hO0 k16.1 k16.2 k18.1 k18.2 (fun w32 h34 hr33 hO34 hv34 => ?_))
          have hu34 := hv34
          obtain ⟨x35, rfl⟩ := hr33
          show uRun _ (uCall Mt _) _ 57 (_, [(.inl x35)], _, _, _)
          refine ur_svIk [some (.inr (.inr (some 0))), some (.inl a1), some (.inl a2), some (.inl a3), some (.inr (.inr (some r15))), some (.inr (.inr (some r17))), some (.inl x35)] rfl rfl ?_
          refine ur_ldI rfl rfl ?_
          refine ur_push rfl ?_
          refine ur_if2 rfl (fun c36 => ?_) (fun c36 => ?_)
          · have t37 := ne_to c36
            refine ur_ldI rfl rfl ?_
            refine ur_if1 rfl (fun c38 => ?_) (fun c38 => ?_)
            · have t39 := ne_to c38
              refine ur_ldI rfl rfl ?_
              refine ur_push rfl ?_
              refine ur_divV rfl (by decide) (fun x40 e41 => ?_)
              have z42 := any_r x35
              have t43 : 0 ≤ x35.toInt → x40.toInt = x35.toInt % 9 := fun q => ti_rem e41 l_9 (by decide) q
              exact ur_ret rfl rfl (hQ _ _ ⟨_, rfl⟩ hO34 hu34)
            · have t44 := ne_no c38
              refine ur_ldI rfl rfl ?_
              refine ur_push rfl ?_
              refine ur_divV rfl (by decide) (fun x45 e46 => ?_)
              have z47 := any_r x35
              have t48 : 0 ≤ x35.toInt → x45.toInt = x35.toInt / 9 := fun q => ti_div e46 l_9 (by decide) q
              refine ur_go rfl ?_
              exact ur_ret rfl rfl (hQ _ _ ⟨_, rfl⟩ hO34 hu34)
          · have t49 := ne_no c36
            refine ur_push rfl ?_
            exact ur_ret rfl rfl (hQ _ _ ⟨_, rfl⟩ hO34 hu34)
        · have t50 := wi_noL c26 l_0 l_1
          refine ur_push rfl ?_
          exact ur_ret rfl rfl (hQ _ _ ⟨_, rfl⟩ hO0 un.rf)

set_option maxRecDepth 20000 in
set_option maxHeartbeats 4000000 in
theorem sf_X11_taken {d kc ks : Nat} {h0 : aH} {Q : Option aV → aH → Prop} (hO0 : OK h0) (a1 : Int32) (a2 : Int32) (hQ : ∀ r, (∃ x, r = some (.inl x)) → Q r h0) : uCall Mt (d + 4) 164 [(.inr (.inr (some 0))), (.inl a1), (.inl a2)] h0 kc ks Q := by
  have l_m12 : ((-12) : Int32).toInt = -12 := by decide
  have l_m11 : ((-11) : Int32).toInt = -11 := by decide
  have l_m1 : ((-1) : Int32).toInt = -1 := by decide
  have l_0 : ((0) : Int32).toInt = 0 := by decide
  have l_5 : ((5) : Int32).toInt = 5 := by decide
  have l_7 : ((7) : Int32).toInt = 7 := by decide
  refine uc_ink [some (.inr (.inr (some 0))), some (.inl a1), some (.inl a2), none] mt_164 (Nat.le_of_ble_eq_true rfl) rfl ?_
  refine ur_ldA rfl rfl ?_
  obtain ⟨hc1, k2⟩ := ok_0 hO0
  refine ur_get rfl hc1 rfl ?_
  refine ur_ldI rfl rfl ?_
  obtain ⟨hc3, k4⟩ := ok_57 hO0
  refine ur_callv rfl rfl (Nat.le_of_ble_eq_true rfl) (Nat.le_of_ble_eq_true rfl) (rcv_of hc3) (sp_page _ _) ?_
  refine ur_eqB rfl (fun c7 => ?_) (fun c7 => ?_)
  · have t8 := wi_noL c7 l_0 l_5
    refine ur_push rfl ?_
    exact ur_ret rfl rfl (hQ _ ⟨_, rfl⟩ )
  · have t9 := wi_toL c7 l_0 l_5
    refine ur_ldI rfl rfl ?_
    refine ur_push rfl ?_
    refine ur_push rfl ?_
    refine ur_callv rfl rfl (Nat.le_of_ble_eq_true rfl) (Nat.le_of_ble_eq_true rfl) rfl (sp_within _ _ _ _ _) ?_
    refine ur_neB rfl (fun c12 => ?_) (fun c12 => ?_)
    · have t13 := wi_toL c12 l_0 l_7
      refine ur_ldA rfl rfl ?_
      refine ur_get rfl hc1 rfl ?_
      refine ur_ldI rfl rfl ?_
      refine ur_inl rfl (rcv_of hc3) (Nat.le_of_ble_eq_true rfl) (Nat.le_of_ble_eq_true rfl) (sf_X4_isEmpty hO0 _ (fun w14 hr15 => ?_))
      obtain ⟨b16, rfl⟩ := hr15
      show uRun _ (uCall Mt _) _ 31 (_, [(.inl (bi b16))], _, _, _)
      refine ur_eqB rfl (fun c17 => ?_) (fun c17 => ?_)
      · refine ur_ldA rfl rfl ?_
        refine ur_get rfl hc1 rfl ?_
        refine ur_ldI rfl rfl ?_
        refine ur_inl rfl (rcv_of hc3) (Nat.le_of_ble_eq_true rfl) (Nat.le_of_ble_eq_true rfl) (sf_X4_isRow hO0 _ (fun w18 hr19 => ?_))
        obtain ⟨b20, rfl, t21⟩ := hr19
        show uRun _ (uCall Mt _) _ 45 (_, [(.inl (bi b20))], _, _, _)
        refine ur_eqB rfl (fun c22 => ?_) (fun c22 => ?_)
        · refine ur_ldA rfl rfl ?_
          refine ur_get rfl hc1 rfl ?_
          refine ur_ldA rfl rfl ?_
          refine ur_get rfl hc1 rfl ?_
          refine ur_ldI rfl rfl ?_
          refine ur_inl rfl (rcv_of hc3) (Nat.le_of_ble_eq_true rfl) (Nat.le_of_ble_eq_true rfl) (sf_X4_wordOn hO0 _ (fun w23 hr24 => ?_))
          obtain ⟨x25, rfl⟩ := hr24
          show uRun _ (uCall Mt _) _ 63 (_, [(.inl x25), (.inr (.inr (some 15)))], _, _, _)
          obtain ⟨f27, f28, f29, f30, hc26, k31⟩ := ok_15 hO0
          refine ur_inl rfl (rcv_of hc26) (Nat.le_of_ble_eq_true rfl) (Nat.le_of_ble_eq_true rfl) (sf_X1_wordAt hO0 _ (fun w32 hr33 => ?_))
          obtain ⟨o34, rfl, k35⟩ := hr33
          show uRun _ (uCall Mt _) _ 66 (_, [(.inr (.inr o34))], _, _, _)
          refine ur_svAk [some (.inr (.inr (some 0))), some (.inl a1), some (.inl a2), some (.inr (.inr o34))] rfl rfl ?_
          refine ur_ldA rfl rfl ?_
          cases o34 with
          | none =>
            refine ur_nulN rfl ?_
            refine ur_push rfl ?_
            exact ur_ret rfl rfl (hQ _ ⟨_, rfl⟩ )
          | some r36 =>
            refine ur_nulS rfl ?_
            have k37 := k35 _ rfl
            refine ur_ldA rfl rfl ?_
            obtain ⟨g54, f39, f40, f41, f42, f43, f44, f45, f46, f47, o51, f48, f49, f50, hc38, k52, k53⟩ := hO0.word k37.2
            refine ur_get rfl hc38 rfl ?_
            refine ur_ldI rfl rfl ?_
            refine ur_inl rfl rfl (Nat.le_of_ble_eq_true rfl) (Nat.le_of_ble_eq_true rfl) (sf_X11_isUnder _ _ (fun w55 hr56 => ?_))
            obtain ⟨b57, rfl⟩ := hr56
            show uRun _ (uCall Mt _) _ 79 (_, [(.inl (bi b57))], _, _, _)
            refine ur_neB rfl (fun c58 => ?_) (fun c58 => ?_)
            · refine ur_ldA rfl rfl ?_
              refine ur_get rfl hc38 rfl ?_
              exact ur_ret rfl rfl (hQ _ ⟨_, rfl⟩ )
            · refine ur_push rfl ?_
              exact ur_ret rfl rfl (hQ _ ⟨_, rfl⟩ )
        · have t59 := t21 c22
          refine ur_push rfl ?_
          exact ur_ret rfl rfl (hQ _ ⟨_, rfl⟩ )
      · refine ur_push rfl ?_
        exact ur_ret rfl rfl (hQ _ ⟨_, rfl⟩ )
    · have t60 := wi_noL c12 l_0 l_7
      refine ur_push rfl ?_
      exact ur_ret rfl rfl (hQ _ ⟨_, rfl⟩ )
end CT4
