/-! JUDGE AND BEST: sb0 -/
section WSB0
set_option maxRecDepth 20000 in
set_option maxHeartbeats 4000000 in
theorem sy_bcI {d kc ks : Nat} {h0 : aH} {Q : Option aV → aH → Prop} (a0 : Int32) (hQ : ∀ r, (∃ x : Int32, r = some (.inl x) ∧ (x.toInt = (nb (nuI a0) 32 : Int) ∧ 0 ≤ x.toInt ∧ x.toInt ≤ 32)) → Q r h0) : uCall Mt (d + 1) 304 [(.inl a0)] h0 kc ks Q := by
  have l_1 : ((1) : Int32).toInt = 1 := by decide
  have l_2 : ((2) : Int32).toInt = 2 := by decide
  have l_4 : ((4) : Int32).toInt = 4 := by decide
  have l_8 : ((8) : Int32).toInt = 8 := by decide
  have l_16 : ((16) : Int32).toInt = 16 := by decide
  have l_63 : ((63) : Int32).toInt = 63 := by decide
  have l_252645135 : ((252645135) : Int32).toInt = 252645135 := by decide
  have l_858993459 : ((858993459) : Int32).toInt = 858993459 := by decide
  have l_1431655765 : ((1431655765) : Int32).toInt = 1431655765 := by decide
  refine uc_ink [some (.inl a0)] mt_304 (Nat.le_of_ble_eq_true rfl) rfl ?_
  refine ur_ldI rfl rfl ?_
  refine ur_ldI rfl rfl ?_
  refine ur_push rfl ?_
  refine ur_binV rfl (fun x1 e2 => ?_)
  refine ur_push rfl ?_
  refine ur_binV rfl (fun x3 e4 => ?_)
  refine ur_binV rfl (fun x5 e6 => ?_)
  have z7 := any_r a0
  have z8 := any_r x3
  refine ur_svIk [some (.inl x5)] rfl rfl ?_
  refine ur_ldI rfl rfl ?_
  refine ur_push rfl ?_
  refine ur_binV rfl (fun x9 e10 => ?_)
  refine ur_ldI rfl rfl ?_
  refine ur_push rfl ?_
  refine ur_binV rfl (fun x11 e12 => ?_)
  refine ur_push rfl ?_
  refine ur_binV rfl (fun x13 e14 => ?_)
  refine ur_binV rfl (fun x15 e16 => ?_)
  have z17 := any_r x9
  have z18 := any_r x13
  refine ur_svIk [some (.inl x15)] rfl rfl ?_
  refine ur_ldI rfl rfl ?_
  refine ur_ldI rfl rfl ?_
  refine ur_push rfl ?_
  refine ur_binV rfl (fun x19 e20 => ?_)
  refine ur_binV rfl (fun x21 e22 => ?_)
  have z23 := any_r x15
  have z24 := any_r x19
  refine ur_push rfl ?_
  refine ur_binV rfl (fun x25 e26 => ?_)
  refine ur_svIk [some (.inl x25)] rfl rfl ?_
  refine ur_ldI rfl rfl ?_
  refine ur_ldI rfl rfl ?_
  refine ur_push rfl ?_
  refine ur_binV rfl (fun x27 e28 => ?_)
  refine ur_binV rfl (fun x29 e30 => ?_)
  have z31 := any_r x25
  have z32 := any_r x27
  refine ur_svIk [some (.inl x29)] rfl rfl ?_
  refine ur_ldI rfl rfl ?_
  refine ur_ldI rfl rfl ?_
  refine ur_push rfl ?_
  refine ur_binV rfl (fun x33 e34 => ?_)
  refine ur_binV rfl (fun x35 e36 => ?_)
  have z37 := any_r x29
  have z38 := any_r x33
  refine ur_svIk [some (.inl x35)] rfl rfl ?_
  refine ur_ldI rfl rfl ?_
  refine ur_push rfl ?_
  refine ur_binV rfl (fun x39 e40 => ?_)
  exact ur_ret rfl rfl (hQ _ ⟨_, rfl, (by have q := bc_I e2 e4 e6 e10 e12 e14 e16 e20 e22 e26 e28 e30 e34 e36 e40; have := nb_le (nuI a0) 32; exact ⟨q, by omega, by omega⟩)⟩ )

set_option maxRecDepth 20000 in
set_option maxHeartbeats 4000000 in
theorem sy_bcJ {d kc ks : Nat} {h0 : aH} {Q : Option aV → aH → Prop} (a0 : Int64) (hQ : ∀ r, (∃ x : Int32, r = some (.inl x) ∧ (x.toInt = (nb (nuJ a0) 64 : Int) ∧ 0 ≤ x.toInt ∧ x.toInt ≤ 64)) → Q r h0) : uCall Mt (d + 1) 305 [(.inr (.inl a0))] h0 kc ks Q := by
  have l_1 : ((1) : Int32).toInt = 1 := by decide
  have l_2 : ((2) : Int32).toInt = 2 := by decide
  have l_4 : ((4) : Int32).toInt = 4 := by decide
  have l_8 : ((8) : Int32).toInt = 8 := by decide
  have l_16 : ((16) : Int32).toInt = 16 := by decide
  have l_32 : ((32) : Int32).toInt = 32 := by decide
  have l_127 : ((127) : Int32).toInt = 127 := by decide
  refine uc_ink [some (.inr (.inl a0)), none] mt_305 (Nat.le_of_ble_eq_true rfl) rfl ?_
  refine ur_ldJ rfl rfl ?_
  refine ur_ldJ rfl rfl ?_
  refine ur_push rfl ?_
  refine ur_shJV rfl (fun y1 e2 => ?_)
  refine ur_push rfl ?_
  refine ur_binJV rfl (fun y3 e4 => ?_)
  refine ur_binJV rfl (fun y5 e6 => ?_)
  refine ur_svJk [some (.inr (.inl y5)), none] rfl rfl ?_
  refine ur_ldJ rfl rfl ?_
  refine ur_push rfl ?_
  refine ur_binJV rfl (fun y7 e8 => ?_)
  refine ur_ldJ rfl rfl ?_
  refine ur_push rfl ?_
  refine ur_shJV rfl (fun y9 e10 => ?_)
  refine ur_push rfl ?_
  refine ur_binJV rfl (fun y11 e12 => ?_)
  refine ur_binJV rfl (fun y13 e14 => ?_)
  refine ur_svJk [some (.inr (.inl y13)), none] rfl rfl ?_
  refine ur_ldJ rfl rfl ?_
  refine ur_ldJ rfl rfl ?_
  refine ur_push rfl ?_
  refine ur_shJV rfl (fun y15 e16 => ?_)
  refine ur_binJV rfl (fun y17 e18 => ?_)
  refine ur_push rfl ?_
  refine ur_binJV rfl (fun y19 e20 => ?_)
  refine ur_svJk [some (.inr (.inl y19)), none] rfl rfl ?_
  refine ur_ldJ rfl rfl ?_
  refine ur_ldJ rfl rfl ?_
  refine ur_push rfl ?_
  refine ur_shJV rfl (fun y21 e22 => ?_)
  refine ur_binJV rfl (fun y23 e24 => ?_)
  refine ur_svJk [some (.inr (.inl y23)), none] rfl rfl ?_
  refine ur_ldJ rfl rfl ?_
  refine ur_ldJ rfl rfl ?_
  refine ur_push rfl ?_
  refine ur_shJV rfl (fun y25 e26 => ?_)
  refine ur_binJV rfl (fun y27 e28 => ?_)
  refine ur_svJk [some (.inr (.inl y27)), none] rfl rfl ?_
  refine ur_ldJ rfl rfl ?_
  refine ur_ldJ rfl rfl ?_
  refine ur_push rfl ?_
  refine ur_shJV rfl (fun y29 e30 => ?_)
  refine ur_binJV rfl (fun y31 e32 => ?_)
  refine ur_svJk [some (.inr (.inl y31)), none] rfl rfl ?_
  refine ur_ldJ rfl rfl ?_
  refine ur_l2iV rfl (fun x33 e34 => ?_)
  refine ur_push rfl ?_
  refine ur_binV rfl (fun x35 e36 => ?_)
  exact ur_ret rfl rfl (hQ _ ⟨_, rfl, (by have q := bc_J e2 e4 e6 e8 e10 e12 e14 e16 e18 e20 e22 e24 e26 e28 e30 e32 e34 e36; have := nb_le (nuJ a0) 64; exact ⟨q, by omega, by omega⟩)⟩ )

set_option maxRecDepth 20000 in
set_option maxHeartbeats 4000000 in
theorem sy_X12_bitsOf {d kc ks : Nat} {h0 : aH} {Q : Option aV → aH → Prop} (a0 : Int32) (b0 : 0 ≤ a0.toInt ∧ a0.toInt ≤ 4095) (hQ : ∀ r, (∃ x : Int32, r = some (.inl x) ∧ (x.toInt = (nb (nuI a0) 32 : Int) ∧ 0 ≤ x.toInt ∧ x.toInt ≤ 32)) → Q r h0) : uCall Mt (d + 1) 265 [(.inl a0)] h0 kc ks Q := by
  have l_0 : ((0) : Int32).toInt = 0 := by decide
  have l_1 : ((1) : Int32).toInt = 1 := by decide
  refine uc_ink [some (.inl a0), none, none] mt_265 (Nat.le_of_ble_eq_true rfl) rfl ?_
  refine ur_push rfl ?_
  refine ur_svIk [some (.inl a0), some (.inl 0), none] rfl rfl ?_
  refine ur_ldI rfl rfl ?_
  refine ur_svIk [some (.inl a0), some (.inl 0), some (.inl a0)] rfl rfl ?_
  have L3 : ∀ (m4 : Nat) (x1 : Int32) (x2 : Int32) , ((0 ≤ x2.toInt ∧ x2.toInt ≤ 4095) ∧ (0 ≤ x1.toInt ∧ x1.toInt ≤ 4096) ∧ x1.toInt + x2.toInt ≤ 4095) → (x1.toInt + (nb (nuI x2) 32 : Int) = (nb (nuI a0) 32 : Int)) → (x2.toInt.toNat) < m4 → uRun oX12_bitsOf (uCall Mt (d + 0)) Q 4 ([some (.inl a0), some (.inl x1), some (.inl x2)], [], h0, kc, ks) := by
    intro m4
    induction m4 with
    | zero => intro x1 x2 iv7 px6 mm8; omega
    | succ m4 ih5 =>
      intro x1 x2 iv7 px6 mm8
      refine ur_ldI rfl rfl ?_
      refine ur_if1 rfl (fun c9 => ?_) (fun c9 => ?_)
      · have t10 := eq_to c9
        refine ur_ldI rfl rfl ?_
        exact ur_ret rfl rfl (hQ _ ⟨_, rfl, (by have q := px6; rw [show x2 = 0 from Int32.toInt_inj.mp (by rw [l_0]; omega), show nb (nuI 0) 32 = 0 from by decide +kernel] at q; have := nb_le (nuI a0) 32; exact ⟨by omega, by omega, by omega⟩)⟩ )
      · have t11 := eq_no c9
        refine ur_incV (fun z => [some (.inl a0), some (.inl z), some (.inl x2)]) rfl rfl (fun _ => rfl) (fun x12 e13 => ?_)
        have z14 := any_r x1
        have t15 := ti_add e13 (by omega) (by omega)
        refine ur_ldI rfl rfl ?_
        refine ur_ldI rfl rfl ?_
        refine ur_push rfl ?_
        refine ur_binV rfl (fun x16 e17 => ?_)
        have z18 := any_r x2
        have t19 := ti_sub e17 (by omega) (by omega)
        refine ur_binV rfl (fun x20 e21 => ?_)
        refine ur_svIk [some (.inl a0), some (.inl x12), some (.inl x20)] rfl rfl ?_
        refine ur_go rfl ?_
        have z22 := any_r x12
        have z23 := any_r x20
        have tt24 := kn_e (by omega) e17 e21
        exact ih5 x12 x20 (by omega) (by omega) (by omega)
  have z25 := any_r a0
  exact L3 _ 0 a0 (by omega) (by rw [l_0]; omega) (Nat.lt_succ_self _)

set_option maxRecDepth 20000 in
set_option maxHeartbeats 4000000 in
theorem sd_X12_isWatched {d kc ks : Nat} {h0 : aH} {Q : Option aV → aH → Prop} {ls : List (List (Int × Int) × List (Int × Int))} (hO0 : OK h0) (hX0 : SX h0) (a1 : Int32) (b1 : 0 ≤ a1.toInt ∧ a1.toInt ≤ 11) (a2 : Int32) (b2 : 0 ≤ a2.toInt ∧ a2.toInt ≤ 999999) (pre0 : SKm h0) (pre1 : a1.toInt < fI h0 4) (pre2 : RLn h0 0 ls) (pre3 : ∀ l ∈ ls, lnG l) (pre4 : WRm h0) (hQ : ∀ r h', (∃ q, r = some (.inl (bi q)) ∧ (q = true → SWm ls h0 a1.toInt a2.toInt) ∧ (q = false → ¬ SWm ls h0 a1.toInt a2.toInt)) → OK h' → un [] h0 h' → Q r h') : uCall Mt (d + 6) 260 [(.inr (.inr (some 69))), (.inl a1), (.inl a2)] h0 kc ks Q := by
  have l_0 : ((0) : Int32).toInt = 0 := by decide
  have l_1 : ((1) : Int32).toInt = 1 := by decide
  have l_5 : ((5) : Int32).toInt = 5 := by decide
  have l_120 : ((120) : Int32).toInt = 120 := by decide
  refine uc_ink [some (.inr (.inr (some 69))), some (.inl a1), some (.inl a2), none, none, none, none, none] mt_260 (Nat.le_of_ble_eq_true rfl) rfl ?_
  obtain ⟨fs1, hc2⟩ := hO0.mod
  obtain ⟨f3, p4, t5⟩ := mf_4 hO0 hc2
  have t6 := fI_of hc2 p4
  obtain ⟨f7, p8, t9⟩ := mf_34 hO0 hc2
  have t10 := fI_of hc2 p8
  refine ur_push rfl ?_
  refine ur_svIk [some (.inr (.inr (some 69))), some (.inl a1), some (.inl a2), some (.inl 0), none, none, none, none] rfl rfl ?_
  have L16 : ∀ (m17 : Nat) (x11 : Int32) (u12 : Option aV) (u13 : Option aV) (u14 : Option aV) (u15 : Option aV) (h19 : aH) , OK h19 → un [] h0 h19 → ((0 ≤ x11.toInt ∧ x11.toInt ≤ 10) ∧ x11.toInt ≤ fI h0 34) → (LKq 0 x11.toInt (SWn ls h0 a1.toInt a2.toInt)) → (SKm h19) → ((11 - x11.toInt).toNat) < m17 → uRun oX12_isWatched (uCall Mt (d + 5)) Q 2 ([some (.inr (.inr (some 69))), some (.inl a1), some (.inl a2), some (.inl x11), u12, u13, u14, u15], [], h19, kc, ks) := by
    intro m17
    induction m17 with
    | zero => intro x11 u12 u13 u14 u15 h19 hO19 hu19 iv22 px20 px21 mm23; omega
    | succ m17 ih18 =>
      intro x11 u12 u13 u14 u15 h19 hO19 hu19 iv22 px20 px21 mm23
      refine ur_ldI rfl rfl ?_
      refine ur_ldA rfl rfl ?_
      obtain ⟨fs24, hc25⟩ := hO19.mod
      obtain ⟨f26, p27, t28⟩ := mf_34 hO19 hc25
      have t29 := fI_of hc25 p27
      have t30 := fI_keep (k := 4) hO0 hO19 hu19 rfl (by decide)
      have t31 := fI_keep (k := 34) hO0 hO19 hu19 rfl (by decide)
      refine ur_get rfl hc25 p27 ?_
      have z32 := any_r x11
      have z33 := any_r f26
      refine ur_if2 rfl (fun c34 => ?_) (fun c34 => ?_)
      · have t35 := le_to c34
        refine ur_push rfl ?_
        obtain ⟨f36, p37, t38⟩ := mf_4 hO19 hc25
        have t39 := fI_of hc25 p37
        exact ur_ret rfl rfl (hQ _ _ ⟨false, rfl, fun e => absurd e (by decide), fun _ => (fun ⟨i, hi, q⟩ => px20 i hi.1 (by omega) q)⟩ hO19 hu19)
      · have t40 := le_no c34
        have wr41 := pre4 x11.toInt (by omega) (by omega)
        refine ur_push rfl ?_
        refine ur_svIk [some (.inr (.inr (some 69))), some (.inl a1), some (.inl a2), some (.inl x11), some (.inl 0), u13, u14, u15] rfl rfl ?_
        obtain ⟨f44, p45, t46⟩ := mf_4 hO19 hc25
        have t47 := fI_of hc25 p45
        have J42 : ∀ (x43 : Int32), (0 ≤ x43.toInt ∧ x43.toInt ≤ 1000000) → (gI h0 94 x11.toInt ≤ x43.toInt ∧ a2.toInt - 120 ≤ x43.toInt ∧ (x43.toInt = gI h0 94 x11.toInt ∨ x43.toInt = a2.toInt - 120)) → uRun oX12_isWatched (uCall Mt (d + 5)) Q 39 ([some (.inr (.inr (some 69))), some (.inl a1), some (.inl a2), some (.inl x11), some (.inl 0), u13, u14, u15], [(.inl x43)], h19, kc, ks) := by
          intro x43 t48 cp49
          refine ur_svIk [some (.inr (.inr (some 69))), some (.inl a1), some (.inl a2), some (.inl x11), some (.inl 0), some (.inl x43), u14, u15] rfl rfl ?_
          have J50 : ∀ (x51 : Int32), (-2147483648 ≤ x51.toInt ∧ x51.toInt ≤ 1000119) → (x51.toInt ≤ gI h0 95 x11.toInt ∧ x51.toInt ≤ a2.toInt + 120 ∧ (x51.toInt = gI h0 95 x11.toInt ∨ x51.toInt = a2.toInt + 120)) → uRun oX12_isWatched (uCall Mt (d + 5)) Q 67 ([some (.inr (.inr (some 69))), some (.inl a1), some (.inl a2), some (.inl x11), some (.inl 0), some (.inl x43), u14, u15], [(.inl x51)], h19, kc, ks) := by
            intro x51 t52 cp53
            have z54 := any_r x51
            refine ur_svIk [some (.inr (.inr (some 69))), some (.inl a1), some (.inl a2), some (.inl x11), some (.inl 0), some (.inl x43), some (.inl x51), u15] rfl rfl ?_
            refine ur_ldI rfl rfl ?_
            refine ur_svIk [some (.inr (.inr (some 69))), some (.inl a1), some (.inl a2), some (.inl x11), some (.inl 0), some (.inl x43), some (.inl x51), some (.inl x43)] rfl rfl ?_
            have L57 : ∀ (m58 : Nat) (x55 : Int32) (x56 : Int32) (h60 : aH) , OK h60 → un [] h19 h60 → ((0 ≤ x56.toInt ∧ x56.toInt ≤ 1000001) ∧ (0 ≤ x55.toInt ∧ x55.toInt ≤ 5) ∧ (x56.toInt ≤ x51.toInt + 1 ∨ x55.toInt = 0)) → (SWl (fun d => canP ls (gI h0 74 a1.toInt) (gI h0 76 a1.toInt) (gI h0 75 a1.toInt) (gI h0 77 a1.toInt) (gI h0 93 x11.toInt) a2.toInt d) (gI h0 94 x11.toInt) a2.toInt x56.toInt x55.toInt) → (SKm h60) → ((1000002 - x56.toInt).toNat) < m58 → uRun oX12_isWatched (uCall Mt (d + 5)) Q 73 ([some (.inr (.inr (some 69))), some (.inl a1), some (.inl a2), some (.inl x11), some (.inl x55), some (.inl x43), some (.inl x51), some (.inl x56)], [], h60, kc, ks) := by
              intro m58
              induction m58 with
              | zero => intro x55 x56 h60 hO60 hu60 iv63 px61 px62 mm64; omega
              | succ m58 ih59 =>
                intro x55 x56 h60 hO60 hu60 iv63 px61 px62 mm64
                refine ur_ldI rfl rfl ?_
                refine ur_ldI rfl rfl ?_
                have z65 := any_r x56
                refine ur_if2 rfl (fun c66 => ?_) (fun c66 => ?_)
                · have t67 := lt_to c66
                  refine ur_ldI rfl rfl ?_
                  refine ur_push rfl ?_
                  refine ur_if2 rfl (fun c68 => ?_) (fun c68 => ?_)
                  · have t69 := lt_to c68
                    refine ur_incV (fun z => [some (.inr (.inr (some 69))), some (.inl a1), some (.inl a2), some (.inl z), some (.inl x55), some (.inl x43), some (.inl x51), some (.inl x56)]) rfl rfl (fun _ => rfl) (fun x70 e71 => ?_)
                    have t72 := ti_add e71 (by omega) (by omega)
                    refine ur_go rfl ?_
                    obtain ⟨fs73, hc74⟩ := hO60.mod
                    obtain ⟨f75, p76, t77⟩ := mf_4 hO60 hc74
                    have t78 := fI_of hc74 p76
                    obtain ⟨f79, p80, t81⟩ := mf_34 hO60 hc74
                    have t82 := fI_of hc74 p80
                    have z83 := any_r x70
                    exact ih18 x70 _ _ _ _ _ hO60 (hu19.tr hu60) (by omega) (px20.s (fun q => (SWl.n (b := gI h0 95 x11.toInt) (hi := x51.toInt) px61 (by omega) (by omega) (by omega)) q) (by omega)) px62 (by omega)
                  · have t84 := lt_no c68
                    refine ur_push rfl ?_
                    obtain ⟨fs85, hc86⟩ := hO60.mod
                    obtain ⟨f87, p88, t89⟩ := mf_4 hO60 hc86
                    have t90 := fI_of hc86 p88
                    obtain ⟨f91, p92, t93⟩ := mf_34 hO60 hc86
                    have t94 := fI_of hc86 p92
                    have t95 := fI_keep (k := 4) hO0 hO60 (hu19.tr hu60) rfl (by decide)
                    have t96 := fI_keep (k := 34) hO0 hO60 (hu19.tr hu60) rfl (by decide)
                    exact ur_ret rfl rfl (hQ _ _ ⟨true, rfl, fun _ => ⟨x11.toInt, ⟨by omega, by omega⟩, (SWl.y (hi := x51.toInt) px61 (by omega) (by omega) (by omega))⟩, fun e => absurd e (by decide)⟩ hO60 (hu19.tr hu60))
                · have t97 := lt_no c66
                  refine ur_ldI rfl rfl ?_
                  refine ur_push rfl ?_
                  refine ur_if2 rfl (fun c98 => ?_) (fun c98 => ?_)
                  · have t99 := le_to c98
                    refine ur_ldI rfl rfl ?_
                    refine ur_push rfl ?_
                    refine ur_if2 rfl (fun c100 => ?_) (fun c100 => ?_)
                    · have t101 := lt_to c100
                      exfalso
                      omega
                    · have t102 := lt_no c100
                      refine ur_push rfl ?_
                      obtain ⟨fs103, hc104⟩ := hO60.mod
                      obtain ⟨f105, p106, t107⟩ := mf_4 hO60 hc104
                      have t108 := fI_of hc104 p106
                      obtain ⟨f109, p110, t111⟩ := mf_34 hO60 hc104
                      have t112 := fI_of hc104 p110
                      have t113 := fI_keep (k := 4) hO0 hO60 (hu19.tr hu60) rfl (by decide)
                      have t114 := fI_keep (k := 34) hO0 hO60 (hu19.tr hu60) rfl (by decide)
                      exact ur_ret rfl rfl (hQ _ _ ⟨true, rfl, fun _ => ⟨x11.toInt, ⟨by omega, by omega⟩, (SWl.y (hi := x51.toInt) px61 (by omega) (by omega) (by omega))⟩, fun e => absurd e (by decide)⟩ hO60 (hu19.tr hu60))
                  · have t115 := le_no c98
                    refine ur_ldI rfl rfl ?_
                    refine ur_ldA rfl rfl ?_
                    refine ur_ldI rfl rfl ?_
                    refine ur_ldI rfl rfl ?_
                    refine ur_ldA rfl rfl ?_
                    obtain ⟨fs116, hc117⟩ := hO60.mod
                    refine ur_get rfl hc117 (mf_35 hO60 hc117) ?_
                    refine ur_ldI rfl rfl ?_
                    obtain ⟨xs119, hc118, hn120, he121⟩ := hO60.int (hO60.fix 93 (by decide) rfl)
                    refine ur_aldV rfl hc118 hn120 (by omega) (fun x122 hx123 => ?_)
                    have t124 := gI_of (j := x11) hc118 hx123
                    have t125 := gI_keep (a := 93) (kd := 0) (n := 10) hO0 (hu19.tr hu60) (x11 : Int32).toInt (by decide) rfl (by decide) rfl (by decide) (by decide)
                    refine ur_ldI rfl rfl ?_
                    obtain ⟨f126, p127, t128⟩ := mf_4 hO60 hc117
                    have t129 := fI_of hc117 p127
                    obtain ⟨f130, p131⟩ := mf_15 hO60 hc117
                    have t132 := fI_of hc117 p131
                    obtain ⟨f133, p134⟩ := mf_16 hO60 hc117
                    have t135 := fI_of hc117 p134
                    obtain ⟨f136, p137⟩ := mf_17 hO60 hc117
                    have t138 := fI_of hc117 p137
                    have t139 := fI_keep (k := 4) hO0 hO60 (hu19.tr hu60) rfl (by decide)
                    have t140 := fI_keep (k := 34) hO0 hO60 (hu19.tr hu60) rfl (by decide)
                    refine ur_inl rfl (rcv_of hc117) (Nat.le_of_ble_eq_true rfl) (Nat.le_of_ble_eq_true rfl) (sd_X12_canSee hO60 (hX0.un hO0 hO60 (hu19.tr hu60) (by decide)) _ (by show 0 ≤ a1.toInt ∧ a1.toInt ≤ 11; omega) _ (by show -20000 ≤ a2.toInt ∧ a2.toInt ≤ 1020000; omega) _ (by show 0 ≤ x122.toInt ∧ x122.toInt ≤ 8; omega) _ (by show 0 ≤ x56.toInt ∧ x56.toInt ≤ 999999; omega) px62 (by omega) (pre2.keep (KN.un hO0 (hu19.tr hu60) (by decide) (by decide) (by decide) (by decide) (by decide)) (by decide)) pre3 (fun w141 h144 hr142 hO144 hv144 hp143 => ?_))
                    have hu144 := hv144
                    obtain ⟨b145, rfl, t146, t147⟩ := hr142
                    show uRun _ (uCall Mt _) _ 102 (_, [(.inl (bi b145)), (.inl x55)], _, _, _)
                    refine ur_eqB rfl (fun c148 => ?_) (fun c148 => ?_)
                    · have t149 := t147 c148
                      clear t146 t147
                      refine ur_push rfl ?_
                      refine ur_binV rfl (fun x150 e151 => ?_)
                      have z152 := any_r x55
                      have t153 := ti_add e151 (by omega) (by omega)
                      refine ur_svIk [some (.inr (.inr (some 69))), some (.inl a1), some (.inl a2), some (.inl x11), some (.inl x150), some (.inl x43), some (.inl x51), some (.inl x56)] rfl rfl ?_
                      refine ur_incV (fun z => [some (.inr (.inr (some 69))), some (.inl a1), some (.inl a2), some (.inl x11), some (.inl x150), some (.inl x43), some (.inl x51), some (.inl z)]) rfl rfl (fun _ => rfl) (fun x154 e155 => ?_)
                      have t156 := ti_add e155 (by omega) (by omega)
                      refine ur_go rfl ?_
                      obtain ⟨fs157, hc158⟩ := hO144.mod
                      obtain ⟨f159, p160, t161⟩ := mf_4 hO144 hc158
                      have t162 := fI_of hc158 p160
                      obtain ⟨f163, p164, t165⟩ := mf_34 hO144 hc158
                      have t166 := fI_of hc158 p164
                      have z167 := any_r x150
                      have z168 := any_r x154
                      exact ih59 x150 x154 _ hO144 (hu60.tr hu144) (by omega) (px61.s (by omega) (Or.inr ⟨(by have q := t149; rw [gI_keep (a := 74) (kd := 0) (n := 12) hO0 (hu19.tr hu60) a1.toInt (by decide) rfl (by decide) rfl (by decide) (by decide), gI_keep (a := 76) (kd := 0) (n := 12) hO0 (hu19.tr hu60) a1.toInt (by decide) rfl (by decide) rfl (by decide) (by decide), gI_keep (a := 75) (kd := 0) (n := 12) hO0 (hu19.tr hu60) a1.toInt (by decide) rfl (by decide) rfl (by decide) (by decide), gI_keep (a := 77) (kd := 0) (n := 12) hO0 (hu19.tr hu60) a1.toInt (by decide) rfl (by decide) rfl (by decide) (by decide), show x122.toInt = gI h0 93 x11.toInt by omega] at q; exact q), by omega⟩)) (px62.un hO60 hO144 hv144 (by decide)) (by omega)
                    · have t169 := t146 c148
                      clear t146 t147
                      refine ur_push rfl ?_
                      refine ur_go rfl ?_
                      refine ur_binV rfl (fun x170 e171 => ?_)
                      have z172 := any_r x55
                      have t173 := ti_add e171 (by omega) (by omega)
                      refine ur_svIk [some (.inr (.inr (some 69))), some (.inl a1), some (.inl a2), some (.inl x11), some (.inl x170), some (.inl x43), some (.inl x51), some (.inl x56)] rfl rfl ?_
                      refine ur_incV (fun z => [some (.inr (.inr (some 69))), some (.inl a1), some (.inl a2), some (.inl x11), some (.inl x170), some (.inl x43), some (.inl x51), some (.inl z)]) rfl rfl (fun _ => rfl) (fun x174 e175 => ?_)
                      have t176 := ti_add e175 (by omega) (by omega)
                      refine ur_go rfl ?_
                      obtain ⟨fs177, hc178⟩ := hO144.mod
                      obtain ⟨f179, p180, t181⟩ := mf_4 hO144 hc178
                      have t182 := fI_of hc178 p180
                      obtain ⟨f183, p184, t185⟩ := mf_34 hO144 hc178
                      have t186 := fI_of hc178 p184
                      have z187 := any_r x170
                      have z188 := any_r x174
                      exact ih59 x170 x174 _ hO144 (hu60.tr hu144) (by omega) (px61.s (by omega) (Or.inl ⟨(by have q := t169; rw [gI_keep (a := 74) (kd := 0) (n := 12) hO0 (hu19.tr hu60) a1.toInt (by decide) rfl (by decide) rfl (by decide) (by decide), gI_keep (a := 76) (kd := 0) (n := 12) hO0 (hu19.tr hu60) a1.toInt (by decide) rfl (by decide) rfl (by decide) (by decide), gI_keep (a := 75) (kd := 0) (n := 12) hO0 (hu19.tr hu60) a1.toInt (by decide) rfl (by decide) rfl (by decide) (by decide), gI_keep (a := 77) (kd := 0) (n := 12) hO0 (hu19.tr hu60) a1.toInt (by decide) rfl (by decide) rfl (by decide) (by decide), show x122.toInt = gI h0 93 x11.toInt by omega] at q; exact q), by omega⟩)) (px62.un hO60 hO144 hv144 (by decide)) (by omega)
            exact L57 _ 0 x43 _ hO19 un.rf (by omega) (SWl.z (by omega) (by omega)) px21 (Nat.lt_succ_self _)
          refine ur_ldA rfl rfl ?_
          refine ur_get rfl hc25 (mf_37 hO19 hc25) ?_
          refine ur_ldI rfl rfl ?_
          obtain ⟨xs190, hc189, hn191, he192⟩ := hO19.int (hO19.fix 95 (by decide) rfl)
          refine ur_aldV rfl hc189 hn191 (by omega) (fun x193 hx194 => ?_)
          have t195 := gI_of (j := x11) hc189 hx194
          have t196 := gI_keep (a := 95) (kd := 0) (n := 10) hO0 hu19 (x11 : Int32).toInt (by decide) rfl (by decide) rfl (by decide) (by decide)
          have t197 : 0 ≤ x193.toInt ∧ x193.toInt ≤ 999999 := he192 _ _ hx194
          refine ur_ldI rfl rfl ?_
          refine ur_push rfl ?_
          refine ur_binV rfl (fun x198 e199 => ?_)
          have z200 := any_r a2
          have t201 := ti_add e199 (by omega) (by omega)
          have z202 := any_r x193
          have z203 := any_r x198
          refine ur_if2 rfl (fun c204 => ?_) (fun c204 => ?_)
          · have t205 := le_to c204
            refine ur_ldA rfl rfl ?_
            refine ur_get rfl hc25 (mf_37 hO19 hc25) ?_
            refine ur_ldI rfl rfl ?_
            refine ur_aldV rfl hc189 hn191 (by omega) (fun x206 hx207 => ?_)
            obtain rfl : x193 = x206 := Option.some.inj (hx194.symm.trans hx207)
            exact J50 x193 (by omega) (by omega)
          · have t208 := le_no c204
            refine ur_ldI rfl rfl ?_
            refine ur_push rfl ?_
            refine ur_binV rfl (fun x209 e210 => ?_)
            have t211 := ti_add e210 (by omega) (by omega)
            refine ur_go rfl ?_
            have z212 := any_r x209
            exact J50 x209 (by omega) (by omega)
        refine ur_ldA rfl rfl ?_
        refine ur_get rfl hc25 (mf_36 hO19 hc25) ?_
        refine ur_ldI rfl rfl ?_
        obtain ⟨xs214, hc213, hn215, he216⟩ := hO19.int (hO19.fix 94 (by decide) rfl)
        refine ur_aldV rfl hc213 hn215 (by omega) (fun x217 hx218 => ?_)
        have t219 := gI_of (j := x11) hc213 hx218
        have t220 := gI_keep (a := 94) (kd := 0) (n := 10) hO0 hu19 (x11 : Int32).toInt (by decide) rfl (by decide) rfl (by decide) (by decide)
        refine ur_ldI rfl rfl ?_
        refine ur_push rfl ?_
        refine ur_binV rfl (fun x221 e222 => ?_)
        have z223 := any_r a2
        have t224 := ti_sub e222 (by omega) (by omega)
        have z225 := any_r x217
        have z226 := any_r x221
        refine ur_if2 rfl (fun c227 => ?_) (fun c227 => ?_)
        · have t228 := le_to c227
          refine ur_ldA rfl rfl ?_
          refine ur_get rfl hc25 (mf_36 hO19 hc25) ?_
          refine ur_ldI rfl rfl ?_
          refine ur_aldV rfl hc213 hn215 (by omega) (fun x229 hx230 => ?_)
          obtain rfl : x217 = x229 := Option.some.inj (hx218.symm.trans hx230)
          exact J42 x217 (by omega) (by omega)
        · have t231 := le_no c227
          refine ur_ldI rfl rfl ?_
          refine ur_push rfl ?_
          refine ur_binV rfl (fun x232 e233 => ?_)
          have t234 := ti_sub e233 (by omega) (by omega)
          refine ur_go rfl ?_
          have z235 := any_r x232
          exact J42 x232 (by omega) (by omega)
  exact L16 _ 0 (none) (none) (none) (none) _ hO0 un.rf (by omega) (LKq.z (by omega)) pre0 (Nat.lt_succ_self _)

set_option maxRecDepth 20000 in
set_option maxHeartbeats 4000000 in
theorem sd_X12_isTold {d kc ks : Nat} {h0 : aH} {Q : Option aV → aH → Prop} {ls : List (List (Int × Int) × List (Int × Int))} {l1 : List (List (Int × Int) × List (Int × Int))} {M : Nat → List (List (Int × Int) × List (Int × Int))} (hO0 : OK h0) (hX0 : SX h0) (a1 : Int32) (b1 : 0 ≤ a1.toInt ∧ a1.toInt ≤ 11) (a2 : Int32) (b2 : 0 ≤ a2.toInt ∧ a2.toInt ≤ 999999) (pre0 : SKm h0) (pre1 : a1.toInt < fI h0 4) (pre2 : RLn h0 0 ls) (pre3 : ∀ l ∈ ls, lnG l) (pre4 : RXF h0 M) (pre5 : SLm h0) (pre6 : RLn h0 1 l1) (pre7 : ∀ l ∈ l1, lnG l) (pre8 : LDm h0) (hQ : ∀ r h', (∃ q, r = some (.inl (bi q)) ∧ (q = true → TDm ls l1 h0 M a1.toInt a2.toInt) ∧ (q = false → ¬ TDm ls l1 h0 M a1.toInt a2.toInt)) → OK h' → un [] h0 h' → (SKm h') → Q r h') : uCall Mt (d + 8) 261 [(.inr (.inr (some 69))), (.inl a1), (.inl a2)] h0 kc ks Q := by
  have l_0 : ((0) : Int32).toInt = 0 := by decide
  have l_1 : ((1) : Int32).toInt = 1 := by decide
  refine uc_ink [some (.inr (.inr (some 69))), some (.inl a1), some (.inl a2), none] mt_261 (Nat.le_of_ble_eq_true rfl) rfl ?_
  obtain ⟨fs1, hc2⟩ := hO0.mod
  obtain ⟨f3, p4, t5⟩ := mf_4 hO0 hc2
  have t6 := fI_of hc2 p4
  obtain ⟨f7, p8, t9⟩ := mf_38 hO0 hc2
  have t10 := fI_of hc2 p8
  refine ur_push rfl ?_
  refine ur_svIk [some (.inr (.inr (some 69))), some (.inl a1), some (.inl a2), some (.inl 0)] rfl rfl ?_
  have L12 : ∀ (m13 : Nat) (x11 : Int32) (h15 : aH) , OK h15 → un [] h0 h15 → ((0 ≤ x11.toInt ∧ x11.toInt ≤ 150) ∧ x11.toInt ≤ fI h0 38) → (LKq 0 x11.toInt (fun w => FWm ls l1 h0 M w a1.toInt 0 a2.toInt)) → (SKm h15) → ((151 - x11.toInt).toNat) < m13 → uRun oX12_isTold (uCall Mt (d + 7)) Q 2 ([some (.inr (.inr (some 69))), some (.inl a1), some (.inl a2), some (.inl x11)], [], h15, kc, ks) := by
    intro m13
    induction m13 with
    | zero => intro x11 h15 hO15 hu15 iv18 px16 px17 mm19; omega
    | succ m13 ih14 =>
      intro x11 h15 hO15 hu15 iv18 px16 px17 mm19
      refine ur_ldI rfl rfl ?_
      refine ur_ldA rfl rfl ?_
      obtain ⟨fs20, hc21⟩ := hO15.mod
      obtain ⟨f22, p23, t24⟩ := mf_38 hO15 hc21
      have t25 := fI_of hc21 p23
      have t26 := fI_keep (k := 4) hO0 hO15 hu15 rfl (by decide)
      have t27 := fI_keep (k := 38) hO0 hO15 hu15 rfl (by decide)
      refine ur_get rfl hc21 p23 ?_
      have z28 := any_r x11
      have z29 := any_r f22
      refine ur_if2 rfl (fun c30 => ?_) (fun c30 => ?_)
      · have t31 := le_to c30
        refine ur_push rfl ?_
        obtain ⟨f32, p33, t34⟩ := mf_4 hO15 hc21
        have t35 := fI_of hc21 p33
        exact ur_ret rfl rfl (hQ _ _ ⟨false, rfl, fun e => absurd e (by decide), fun _ => (fun ⟨i, hi, q⟩ => px16 i hi.1 (by omega) q)⟩ hO15 hu15 px17)
      · have t36 := le_no c30
        refine ur_ldA rfl rfl ?_
        refine ur_ldI rfl rfl ?_
        refine ur_ldI rfl rfl ?_
        refine ur_ldI rfl rfl ?_
        refine ur_push rfl ?_
        refine ur_push rfl ?_
        obtain ⟨f37, p38, t39⟩ := mf_4 hO15 hc21
        have t40 := fI_of hc21 p38
        obtain ⟨f41, p42⟩ := mf_15 hO15 hc21
        have t43 := fI_of hc21 p42
        obtain ⟨f44, p45⟩ := mf_16 hO15 hc21
        have t46 := fI_of hc21 p45
        obtain ⟨f47, p48⟩ := mf_17 hO15 hc21
        have t49 := fI_of hc21 p48
        obtain ⟨f50, p51⟩ := mf_50 hO15 hc21
        have t52 := fI_of hc21 p51
        obtain ⟨f53, p54⟩ := mf_51 hO15 hc21
        have t55 := fI_of hc21 p54
        obtain ⟨f56, p57⟩ := mf_52 hO15 hc21
        have t58 := fI_of hc21 p57
        obtain ⟨f59, p60⟩ := mf_53 hO15 hc21
        have t61 := fI_of hc21 p60
        refine ur_inl rfl (rcv_of hc21) (Nat.le_of_ble_eq_true rfl) (Nat.le_of_ble_eq_true rfl) (sd_X12_fitDay hO15 (hX0.un hO0 hO15 hu15 (by decide)) _ (by show 0 ≤ x11.toInt ∧ x11.toInt ≤ 149; omega) _ (by show 0 ≤ a1.toInt ∧ a1.toInt ≤ 11; omega) _ (by show -20000 ≤ a2.toInt ∧ a2.toInt ≤ 1020000; omega) _ (by show -400 ≤ (0 : Int32).toInt ∧ (0 : Int32).toInt ≤ 400; omega) _ (by show 0 ≤ (0 : Int32).toInt ∧ (0 : Int32).toInt ≤ 1000000; omega) px17 (by omega) (by omega) (pre2.keep (KN.un hO0 hu15 (by decide) (by decide) (by decide) (by decide) (by decide)) (by decide)) pre3 (rxf_uw pre4 hO0 hu15 (by decide)) (pre5.un hO0 hO15 hu15 (by decide) (by decide)) (pre6.keep (KN.un hO0 hu15 (by decide) (by decide) (by decide) (by decide) (by decide)) (by decide)) pre7 (pre8.un hO0 hO15 hu15 (by decide) (by decide)) (fun w62 h64 hr63 hO64 hv64 => ?_))
        have hu64 := hv64
        obtain ⟨x65, rfl, f66⟩ := hr63
        show uRun _ (uCall Mt _) _ 19 (_, [(.inl x65)], _, _, _)
        have F67 := f66.1
        rw [l_0] at F67
        have F68 := FMz.un (ls := ls) (l1 := l1) (M := M) (w := x11.toInt) (c := a1.toInt) (mv := 0) F67 hO0 hu15 (rt_c (CEm_of hO0 hX0) (KWm.un hO0 hu15 (by decide)) (by omega) (by omega)) (by decide)
        refine ur_if1 rfl (fun c69 => ?_) (fun c69 => ?_)
        · have t70 := lt_to c69
          refine ur_incV (fun z => [some (.inr (.inr (some 69))), some (.inl a1), some (.inl a2), some (.inl z)]) rfl rfl (fun _ => rfl) (fun x71 e72 => ?_)
          have t73 := ti_add e72 (by omega) (by omega)
          refine ur_go rfl ?_
          obtain ⟨fs74, hc75⟩ := hO64.mod
          obtain ⟨f76, p77, t78⟩ := mf_4 hO64 hc75
          have t79 := fI_of hc75 p77
          obtain ⟨f80, p81, t82⟩ := mf_38 hO64 hc75
          have t83 := fI_of hc75 p81
          have z84 := any_r x71
          exact ih14 x71 _ hO64 (hu15.tr hu64) (by omega) (px16.s (fun ⟨_, f, n⟩ => n ((f.u F68).trans (by omega))) (by omega)) (px17.un hO15 hO64 hv64 (by decide)) (by omega)
        · have t85 := lt_no c69
          refine ur_push rfl ?_
          obtain ⟨fs86, hc87⟩ := hO64.mod
          obtain ⟨f88, p89, t90⟩ := mf_4 hO64 hc87
          have t91 := fI_of hc87 p89
          obtain ⟨f92, p93, t94⟩ := mf_38 hO64 hc87
          have t95 := fI_of hc87 p93
          have t96 := fI_keep (k := 4) hO0 hO64 (hu15.tr hu64) rfl (by decide)
          have t97 := fI_keep (k := 38) hO0 hO64 (hu15.tr hu64) rfl (by decide)
          exact ur_ret rfl rfl (hQ _ _ ⟨true, rfl, fun _ => ⟨x11.toInt, ⟨by omega, by omega⟩, x65.toInt, F68, by omega⟩, fun e => absurd e (by decide)⟩ hO64 (hu15.tr hu64) (px17.un hO15 hO64 hv64 (by decide)))
  exact L12 _ 0 _ hO0 un.rf (by omega) (LKq.z (by omega)) pre0 (Nat.lt_succ_self _)


end WSB0
