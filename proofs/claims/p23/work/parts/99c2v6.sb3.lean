/-! JUDGE AND BEST: sb3 -/
section WSB3
set_option maxRecDepth 20000 in
set_option maxHeartbeats 4000000 in
theorem sd_X12_worthOf {d kc ks : Nat} {h0 : aH} {Q : Option aV → aH → Prop} (hO0 : OK h0) (a1 : Int32) (b1 : 0 ≤ a1.toInt ∧ a1.toInt ≤ 4095) (pre0 : 0 ≤ fI h0 4 ∧ fI h0 4 ≤ 12 ∧ 0 ≤ fI h0 38 ∧ fI h0 38 ≤ 150) (pre1 : ∀ c : Int, 0 ≤ c → c < fI h0 4 → bt a1 c = 1 → 0 ≤ gI h0 106 c ∧ gI h0 106 c ≤ 121) (hQ : ∀ r, (∃ x : Int32, r = some (.inl x) ∧ (x.toInt = 3 * cq (WRh h0 a1) 0 (fI h0 38) - smW a1 (fun c => gI h0 106 c) (fI h0 4).toNat ∧ -1512 ≤ x.toInt ∧ x.toInt ≤ 450)) → Q r h0) : uCall Mt (d + 1) 263 [(.inr (.inr (some 69))), (.inl a1)] h0 kc ks Q := by
  have l_0 : ((0) : Int32).toInt = 0 := by decide
  have l_1 : ((1) : Int32).toInt = 1 := by decide
  have l_3 : ((3) : Int32).toInt = 3 := by decide
  have l_5 : ((5) : Int32).toInt = 5 := by decide
  refine uc_ink [some (.inr (.inr (some 69))), some (.inl a1), none, none] mt_263 (Nat.le_of_ble_eq_true rfl) rfl ?_
  obtain ⟨fs1, hc2⟩ := hO0.mod
  obtain ⟨f3, p4, t5⟩ := mf_4 hO0 hc2
  have t6 := fI_of hc2 p4
  obtain ⟨f7, p8, t9⟩ := mf_38 hO0 hc2
  have t10 := fI_of hc2 p8
  refine ur_push rfl ?_
  refine ur_svIk [some (.inr (.inr (some 69))), some (.inl a1), some (.inl 0), none] rfl rfl ?_
  refine ur_push rfl ?_
  refine ur_svIk [some (.inr (.inr (some 69))), some (.inl a1), some (.inl 0), some (.inl 0)] rfl rfl ?_
  have L13 : ∀ (m14 : Nat) (x11 : Int32) (x12 : Int32) , ((0 ≤ x11.toInt ∧ x11.toInt ≤ 450) ∧ (0 ≤ x12.toInt ∧ x12.toInt ≤ 150) ∧ x12.toInt ≤ fI h0 38 ∧ x11.toInt ≤ 3 * x12.toInt) → (x11.toInt = 3 * cq (WRh h0 a1) 0 x12.toInt) → ((151 - x12.toInt).toNat) < m14 → uRun oX12_worthOf (uCall Mt (d + 0)) Q 4 ([some (.inr (.inr (some 69))), some (.inl a1), some (.inl x11), some (.inl x12)], [], h0, kc, ks) := by
    intro m14
    induction m14 with
    | zero => intro x11 x12 iv17 px16 mm18; omega
    | succ m14 ih15 =>
      intro x11 x12 iv17 px16 mm18
      refine ur_ldI rfl rfl ?_
      refine ur_ldA rfl rfl ?_
      refine ur_get rfl hc2 p8 ?_
      have z19 := any_r x12
      have z20 := any_r f7
      refine ur_if2 rfl (fun c21 => ?_) (fun c21 => ?_)
      · have t22 := le_to c21
        refine ur_push rfl ?_
        refine ur_svIk [some (.inr (.inr (some 69))), some (.inl a1), some (.inl x11), some (.inl 0)] rfl rfl ?_
        have L25 : ∀ (m26 : Nat) (x23 : Int32) (x24 : Int32) , ((-1512 ≤ x23.toInt ∧ x23.toInt ≤ 450) ∧ (0 ≤ x24.toInt ∧ x24.toInt ≤ 12) ∧ x24.toInt ≤ fI h0 4 ∧ -126 * x24.toInt ≤ x23.toInt) → (x23.toInt = 3 * cq (WRh h0 a1) 0 (fI h0 38) - smW a1 (fun c => gI h0 106 c) x24.toInt.toNat) → ((13 - x24.toInt).toNat) < m26 → uRun oX12_worthOf (uCall Mt (d + 0)) Q 44 ([some (.inr (.inr (some 69))), some (.inl a1), some (.inl x23), some (.inl x24)], [], h0, kc, ks) := by
          intro m26
          induction m26 with
          | zero => intro x23 x24 iv29 px28 mm30; omega
          | succ m26 ih27 =>
            intro x23 x24 iv29 px28 mm30
            refine ur_ldI rfl rfl ?_
            refine ur_ldA rfl rfl ?_
            refine ur_get rfl hc2 p4 ?_
            have z31 := any_r x24
            have z32 := any_r f3
            refine ur_if2 rfl (fun c33 => ?_) (fun c33 => ?_)
            · have t34 := le_to c33
              refine ur_ldI rfl rfl ?_
              exact ur_ret rfl rfl (hQ _ ⟨_, rfl, ⟨(by have q := px28; rw [show x24.toInt.toNat = (fI h0 4).toNat by omega] at q; omega), by omega, by omega⟩⟩ )
            · have t35 := le_no c33
              refine ur_ldI rfl rfl ?_
              refine ur_ldI rfl rfl ?_
              refine ur_binV rfl (fun x36 e37 => ?_)
              have z38 := any_r a1
              refine ur_push rfl ?_
              refine ur_binV rfl (fun x39 e40 => ?_)
              have t41 := and_1 e40
              have t42 := bt_of e37 e40
              refine ur_push rfl ?_
              refine ur_if2 rfl (fun c43 => ?_) (fun c43 => ?_)
              · have t44 := ne_to c43
                refine ur_incV (fun z => [some (.inr (.inr (some 69))), some (.inl a1), some (.inl x23), some (.inl z)]) rfl rfl (fun _ => rfl) (fun x45 e46 => ?_)
                have t47 := ti_add e46 (by omega) (by omega)
                refine ur_go rfl ?_
                have z48 := any_r x23
                have z49 := any_r x45
                exact ih27 x23 x45 (by omega) (by have q := smW_k (S := a1) (M := fun c => gI h0 106 c) (i := x24.toInt) (i' := x45.toInt) (by omega) (by omega) (by omega); have p := px28; omega) (by omega)
              · have t50 := ne_no c43
                refine ur_ldI rfl rfl ?_
                refine ur_push rfl ?_
                refine ur_ldA rfl rfl ?_
                refine ur_get rfl hc2 (mf_56 hO0 hc2) ?_
                refine ur_ldI rfl rfl ?_
                obtain ⟨xs52, hc51, hn53, he54⟩ := hO0.int (hO0.fix 106 (by decide) rfl)
                refine ur_aldV rfl hc51 hn53 (by omega) (fun x55 hx56 => ?_)
                have t57 := gI_of (j := x24) hc51 hx56
                have tt58 := pre1 x24.toInt (by omega) (by omega) (by omega)
                refine ur_binV rfl (fun x59 e60 => ?_)
                have z61 := any_r x55
                have t62 := ti_add e60 (by omega) (by omega)
                refine ur_binV rfl (fun x63 e64 => ?_)
                have z65 := any_r x23
                have z66 := any_r x59
                have t67 := ti_sub e64 (by omega) (by omega)
                refine ur_svIk [some (.inr (.inr (some 69))), some (.inl a1), some (.inl x63), some (.inl x24)] rfl rfl ?_
                refine ur_incV (fun z => [some (.inr (.inr (some 69))), some (.inl a1), some (.inl x63), some (.inl z)]) rfl rfl (fun _ => rfl) (fun x68 e69 => ?_)
                have t70 := ti_add e69 (by omega) (by omega)
                refine ur_go rfl ?_
                have z71 := any_r x63
                have z72 := any_r x68
                exact ih27 x63 x68 (by omega) (by have q := smW_s (S := a1) (M := fun c => gI h0 106 c) (i := x24.toInt) (i' := x68.toInt) (m := gI h0 106 x24.toInt) (by omega) (by omega) (by omega) rfl; have p := px28; omega) (by omega)
        have z73 := any_r x11
        exact L25 _ x11 0 (by omega) (by rw [show ((0) : Int32).toInt.toNat = 0 from rfl]; show _ = _ - (0 : Int); have q := px16; rw [show x12.toInt = fI h0 38 by omega] at q; omega) (Nat.lt_succ_self _)
      · have t74 := le_no c21
        refine ur_ldA rfl rfl ?_
        refine ur_get rfl hc2 (mf_39 hO0 hc2) ?_
        refine ur_ldI rfl rfl ?_
        obtain ⟨xs76, hc75, hn77, he78⟩ := hO0.int (hO0.fix 96 (by decide) rfl)
        refine ur_aldV rfl hc75 hn77 (by omega) (fun x79 hx80 => ?_)
        have t81 := gI_of (j := x12) hc75 hx80
        have t82 : 0 ≤ x79.toInt ∧ x79.toInt ≤ 7 := he78 _ _ hx80
        refine ur_push rfl ?_
        refine ur_if2 rfl (fun c83 => ?_) (fun c83 => ?_)
        · have t84 := eq_to c83
          refine ur_incV (fun z => [some (.inr (.inr (some 69))), some (.inl a1), some (.inl x11), some (.inl z)]) rfl rfl (fun _ => rfl) (fun x85 e86 => ?_)
          have t87 := ti_add e86 (by omega) (by omega)
          refine ur_go rfl ?_
          have z88 := any_r x11
          have z89 := any_r x85
          exact ih15 x11 x85 (by omega) (by have q := cq_n (P := WRh h0 a1) (lo := 0) (m := x12.toInt) (m' := x85.toInt) (by omega) (fun q => q.1 (by omega)) (by omega); have p := px16; omega) (by omega)
        · have t90 := eq_no c83
          refine ur_ldA rfl rfl ?_
          refine ur_get rfl hc2 (mf_55 hO0 hc2) ?_
          refine ur_ldI rfl rfl ?_
          obtain ⟨xs92, hc91, hn93, he94⟩ := hO0.int (hO0.fix 105 (by decide) rfl)
          refine ur_aldV rfl hc91 hn93 (by omega) (fun x95 hx96 => ?_)
          have t97 := gI_of (j := x12) hc91 hx96
          refine ur_ldI rfl rfl ?_
          refine ur_binV rfl (fun x98 e99 => ?_)
          refine ur_if1 rfl (fun c100 => ?_) (fun c100 => ?_)
          · have t101 := eq_to c100
            refine ur_incV (fun z => [some (.inr (.inr (some 69))), some (.inl a1), some (.inl x11), some (.inl z)]) rfl rfl (fun _ => rfl) (fun x102 e103 => ?_)
            have t104 := ti_add e103 (by omega) (by omega)
            refine ur_go rfl ?_
            have z105 := any_r x11
            have z106 := any_r x102
            exact ih15 x11 x102 (by omega) (by have q := cq_n (P := WRh h0 a1) (lo := 0) (m := x12.toInt) (m' := x102.toInt) (by omega) (WRh.n e99 (gV_i (a := 105) (x := x95) (by omega)) (by omega)) (by omega); have p := px16; omega) (by omega)
          · have t107 := eq_no c100
            refine ur_incV (fun z => [some (.inr (.inr (some 69))), some (.inl a1), some (.inl z), some (.inl x12)]) rfl rfl (fun _ => rfl) (fun x108 e109 => ?_)
            have z110 := any_r x11
            have t111 := ti_add e109 (by omega) (by omega)
            refine ur_incV (fun z => [some (.inr (.inr (some 69))), some (.inl a1), some (.inl x108), some (.inl z)]) rfl rfl (fun _ => rfl) (fun x112 e113 => ?_)
            have t114 := ti_add e113 (by omega) (by omega)
            refine ur_go rfl ?_
            have z115 := any_r x108
            have z116 := any_r x112
            exact ih15 x108 x112 (by omega) (by have q := cq_y (P := WRh h0 a1) (lo := 0) (m := x12.toInt) (m' := x112.toInt) (by omega) (WRh.y e99 (gV_i (a := 105) (x := x95) (by omega)) (by omega) (by omega)) (by omega); have p := px16; omega) (by omega)
  exact L13 _ 0 0 (by omega) (by rw [l_0, cq_z (Int.le_refl 0)]; rfl) (Nat.lt_succ_self _)

set_option maxRecDepth 20000 in
set_option maxHeartbeats 4000000 in
theorem sd_X7_bestSetOf {d kc ks : Nat} {h0 : aH} {Q : Option aV → aH → Prop} (hO0 : OK h0) (a1 : Int32) (b1 : 0 ≤ a1.toInt ∧ a1.toInt ≤ 6) (pre0 : ∀ c : Int, 0 ≤ c → c < a1.toInt → 0 ≤ gI h0 46 c ∧ gI h0 46 c ≤ 121) (hQ : ∀ r, (∃ x : Int32, r = some (.inl x) ∧ ((∃ w, bsF (VCx h0) (p2 a1.toInt - 1).toNat = (x.toInt, w)) ∧ 0 ≤ x.toInt ∧ x.toInt ≤ 63 ∧ x.toInt < p2 a1.toInt)) → Q r h0) : uCall Mt (d + 3) 79 [(.inr (.inr (some 41))), (.inl a1)] h0 kc ks Q := by
  have l_0 : ((0) : Int32).toInt = 0 := by decide
  have l_1 : ((1) : Int32).toInt = 1 := by decide
  refine uc_ink [some (.inr (.inr (some 41))), some (.inl a1), none, none, none, none, none] mt_79 (Nat.le_of_ble_eq_true rfl) rfl ?_
  have tt1 := p2_r (k := a1.toInt) (by omega)
  refine ur_push rfl ?_
  refine ur_svIk [some (.inr (.inr (some 41))), some (.inl a1), some (.inl 0), none, none, none, none] rfl rfl ?_
  refine ur_push rfl ?_
  refine ur_svIk [some (.inr (.inr (some 41))), some (.inl a1), some (.inl 0), some (.inl 0), none, none, none] rfl rfl ?_
  refine ur_push rfl ?_
  refine ur_svIk [some (.inr (.inr (some 41))), some (.inl a1), some (.inl 0), some (.inl 0), some (.inl 1), none, none] rfl rfl ?_
  have L7 : ∀ (m8 : Nat) (x2 : Int32) (x3 : Int32) (x4 : Int32) (u5 : Option aV) (u6 : Option aV) , ((0 ≤ x2.toInt ∧ x2.toInt ≤ 63) ∧ (0 ≤ x3.toInt ∧ x3.toInt ≤ 576) ∧ (1 ≤ x4.toInt ∧ x4.toInt ≤ 64) ∧ x4.toInt ≤ p2 a1.toInt ∧ x2.toInt < x4.toInt) → (bsF (VCx h0) (x4.toInt - 1).toNat = (x2.toInt, x3.toInt)) → ((65 - x4.toInt).toNat) < m8 → uRun oX7_bestSetOf (uCall Mt (d + 2)) Q 7 ([some (.inr (.inr (some 41))), some (.inl a1), some (.inl x2), some (.inl x3), some (.inl x4), u5, u6], [], h0, kc, ks) := by
    intro m8
    induction m8 with
    | zero => intro x2 x3 x4 u5 u6 iv11 px10 mm12; omega
    | succ m8 ih9 =>
      intro x2 x3 x4 u5 u6 iv11 px10 mm12
      refine ur_ldI rfl rfl ?_
      refine ur_push rfl ?_
      refine ur_ldI rfl rfl ?_
      refine ur_binV rfl (fun x13 e14 => ?_)
      have tt15 := shl_p e14 (by omega)
      have z16 := any_r x4
      have z17 := any_r x13
      refine ur_if2 rfl (fun c18 => ?_) (fun c18 => ?_)
      · have t19 := le_to c18
        refine ur_ldI rfl rfl ?_
        exact ur_ret rfl rfl (hQ _ ⟨_, rfl, ⟨⟨x3.toInt, (by have q := px10; rw [show x4.toInt = p2 a1.toInt by omega] at q; exact q)⟩, by omega, by omega, by omega⟩⟩ )
      · have t20 := le_no c18
        refine ur_ldA rfl rfl ?_
        refine ur_ldI rfl rfl ?_
        obtain ⟨f22, f23, hc21, k24⟩ := ok_41 hO0
        refine ur_inl rfl (rcv_of hc21) (Nat.le_of_ble_eq_true rfl) (Nat.le_of_ble_eq_true rfl) (sd_X7_worthOf hO0 _ (by omega) (fun c c0 c1 b => pre0 c c0 (bt_lt (k := a1.toInt) ⟨by omega, by omega⟩ ⟨c0, by omega⟩ b)) (fun w25 hr26 => ?_))
        obtain ⟨x27, rfl, f28⟩ := hr26
        show uRun _ (uCall Mt _) _ 21 (_, [(.inl x27)], _, _, _)
        refine ur_svIk [some (.inr (.inr (some 41))), some (.inl a1), some (.inl x2), some (.inl x3), some (.inl x4), some (.inl x27), u6] rfl rfl ?_
        refine ur_ldI rfl rfl ?_
        refine ur_inl rfl rfl (Nat.le_of_ble_eq_true rfl) (Nat.le_of_ble_eq_true rfl) (sy_bcI _ (fun w29 hr30 => ?_))
        obtain ⟨x31, rfl, f32⟩ := hr30
        show uRun _ (uCall Mt _) _ 28 (_, [(.inl x31)], _, _, _)
        refine ur_ldI rfl rfl ?_
        refine ur_inl rfl rfl (Nat.le_of_ble_eq_true rfl) (Nat.le_of_ble_eq_true rfl) (sy_bcI _ (fun w33 hr34 => ?_))
        obtain ⟨x35, rfl, f36⟩ := hr34
        show uRun _ (uCall Mt _) _ 32 (_, [(.inl x35), (.inl x31)], _, _, _)
        have z37 := any_r x31
        have z38 := any_r x35
        refine ur_if2 rfl (fun c39 => ?_) (fun c39 => ?_)
        · have t40 := le_to c39
          refine ur_push rfl ?_
          refine ur_svIk [some (.inr (.inr (some 41))), some (.inl a1), some (.inl x2), some (.inl x3), some (.inl x4), some (.inl x27), some (.inl 0)] rfl rfl ?_
          refine ur_ldI rfl rfl ?_
          refine ur_ldI rfl rfl ?_
          have z41 := any_r x27
          have z42 := any_r x3
          refine ur_if2 rfl (fun c43 => ?_) (fun c43 => ?_)
          · have t44 := lt_to c43
            refine ur_ldI rfl rfl ?_
            refine ur_svIk [some (.inr (.inr (some 41))), some (.inl a1), some (.inl x4), some (.inl x3), some (.inl x4), some (.inl x27), some (.inl 0)] rfl rfl ?_
            refine ur_ldI rfl rfl ?_
            refine ur_svIk [some (.inr (.inr (some 41))), some (.inl a1), some (.inl x4), some (.inl x27), some (.inl x4), some (.inl x27), some (.inl 0)] rfl rfl ?_
            refine ur_incV (fun z => [some (.inr (.inr (some 41))), some (.inl a1), some (.inl x4), some (.inl x27), some (.inl z), some (.inl x27), some (.inl 0)]) rfl rfl (fun _ => rfl) (fun x45 e46 => ?_)
            have t47 := ti_add e46 (by omega) (by omega)
            refine ur_go rfl ?_
            have z48 := any_r x45
            exact ih9 x4 x27 x45 _ _ (by omega) (by rw [show x45.toInt - 1 = x4.toInt by omega]; exact (by have q1 := nbi_e (S := x4) (by omega); have q2 := nbi_e (S := x2) (by omega); exact bsF_y (k := x4.toInt - 1) (k' := x4.toInt) (v := x27.toInt) px10 (by omega) (by omega) (VCx_e f28.1) (by omega))) (by omega)
          · have t49 := lt_no c43
            refine ur_ldI rfl rfl ?_
            refine ur_ldI rfl rfl ?_
            refine ur_if2 rfl (fun c50 => ?_) (fun c50 => ?_)
            · have t51 := ne_to c50
              refine ur_incV (fun z => [some (.inr (.inr (some 41))), some (.inl a1), some (.inl x2), some (.inl x3), some (.inl z), some (.inl x27), some (.inl 0)]) rfl rfl (fun _ => rfl) (fun x52 e53 => ?_)
              have t54 := ti_add e53 (by omega) (by omega)
              refine ur_go rfl ?_
              have z55 := any_r x2
              have z56 := any_r x52
              exact ih9 x2 x3 x52 _ _ (by omega) (by rw [show x52.toInt - 1 = x4.toInt by omega]; exact (by have q1 := nbi_e (S := x4) (by omega); have q2 := nbi_e (S := x2) (by omega); exact bsF_n (k := x4.toInt - 1) (k' := x4.toInt) (v := x27.toInt) px10 (by omega) (by omega) (VCx_e f28.1) (by omega))) (by omega)
            · have t57 := ne_no c50
              refine ur_ldI rfl rfl ?_
              refine ur_if1t rfl (by decide) ?_
              refine ur_incV (fun z => [some (.inr (.inr (some 41))), some (.inl a1), some (.inl x2), some (.inl x3), some (.inl z), some (.inl x27), some (.inl 0)]) rfl rfl (fun _ => rfl) (fun x58 e59 => ?_)
              have t60 := ti_add e59 (by omega) (by omega)
              refine ur_go rfl ?_
              have z61 := any_r x2
              have z62 := any_r x58
              exact ih9 x2 x3 x58 _ _ (by omega) (by rw [show x58.toInt - 1 = x4.toInt by omega]; exact (by have q1 := nbi_e (S := x4) (by omega); have q2 := nbi_e (S := x2) (by omega); exact bsF_n (k := x4.toInt - 1) (k' := x4.toInt) (v := x27.toInt) px10 (by omega) (by omega) (VCx_e f28.1) (by omega))) (by omega)
        · have t63 := le_no c39
          refine ur_push rfl ?_
          refine ur_go rfl ?_
          refine ur_svIk [some (.inr (.inr (some 41))), some (.inl a1), some (.inl x2), some (.inl x3), some (.inl x4), some (.inl x27), some (.inl 1)] rfl rfl ?_
          refine ur_ldI rfl rfl ?_
          refine ur_ldI rfl rfl ?_
          have z64 := any_r x27
          have z65 := any_r x3
          refine ur_if2 rfl (fun c66 => ?_) (fun c66 => ?_)
          · have t67 := lt_to c66
            refine ur_ldI rfl rfl ?_
            refine ur_svIk [some (.inr (.inr (some 41))), some (.inl a1), some (.inl x4), some (.inl x3), some (.inl x4), some (.inl x27), some (.inl 1)] rfl rfl ?_
            refine ur_ldI rfl rfl ?_
            refine ur_svIk [some (.inr (.inr (some 41))), some (.inl a1), some (.inl x4), some (.inl x27), some (.inl x4), some (.inl x27), some (.inl 1)] rfl rfl ?_
            refine ur_incV (fun z => [some (.inr (.inr (some 41))), some (.inl a1), some (.inl x4), some (.inl x27), some (.inl z), some (.inl x27), some (.inl 1)]) rfl rfl (fun _ => rfl) (fun x68 e69 => ?_)
            have t70 := ti_add e69 (by omega) (by omega)
            refine ur_go rfl ?_
            have z71 := any_r x68
            exact ih9 x4 x27 x68 _ _ (by omega) (by rw [show x68.toInt - 1 = x4.toInt by omega]; exact (by have q1 := nbi_e (S := x4) (by omega); have q2 := nbi_e (S := x2) (by omega); exact bsF_y (k := x4.toInt - 1) (k' := x4.toInt) (v := x27.toInt) px10 (by omega) (by omega) (VCx_e f28.1) (by omega))) (by omega)
          · have t72 := lt_no c66
            refine ur_ldI rfl rfl ?_
            refine ur_ldI rfl rfl ?_
            refine ur_if2 rfl (fun c73 => ?_) (fun c73 => ?_)
            · have t74 := ne_to c73
              refine ur_incV (fun z => [some (.inr (.inr (some 41))), some (.inl a1), some (.inl x2), some (.inl x3), some (.inl z), some (.inl x27), some (.inl 1)]) rfl rfl (fun _ => rfl) (fun x75 e76 => ?_)
              have t77 := ti_add e76 (by omega) (by omega)
              refine ur_go rfl ?_
              have z78 := any_r x2
              have z79 := any_r x75
              exact ih9 x2 x3 x75 _ _ (by omega) (by rw [show x75.toInt - 1 = x4.toInt by omega]; exact (by have q1 := nbi_e (S := x4) (by omega); have q2 := nbi_e (S := x2) (by omega); exact bsF_n (k := x4.toInt - 1) (k' := x4.toInt) (v := x27.toInt) px10 (by omega) (by omega) (VCx_e f28.1) (by omega))) (by omega)
            · have t80 := ne_no c73
              refine ur_ldI rfl rfl ?_
              refine ur_if1f rfl (by decide) ?_
              refine ur_ldI rfl rfl ?_
              refine ur_svIk [some (.inr (.inr (some 41))), some (.inl a1), some (.inl x4), some (.inl x3), some (.inl x4), some (.inl x27), some (.inl 1)] rfl rfl ?_
              refine ur_ldI rfl rfl ?_
              refine ur_svIk [some (.inr (.inr (some 41))), some (.inl a1), some (.inl x4), some (.inl x27), some (.inl x4), some (.inl x27), some (.inl 1)] rfl rfl ?_
              refine ur_incV (fun z => [some (.inr (.inr (some 41))), some (.inl a1), some (.inl x4), some (.inl x27), some (.inl z), some (.inl x27), some (.inl 1)]) rfl rfl (fun _ => rfl) (fun x81 e82 => ?_)
              have t83 := ti_add e82 (by omega) (by omega)
              refine ur_go rfl ?_
              have z84 := any_r x81
              exact ih9 x4 x27 x81 _ _ (by omega) (by rw [show x81.toInt - 1 = x4.toInt by omega]; exact (by have q1 := nbi_e (S := x4) (by omega); have q2 := nbi_e (S := x2) (by omega); exact bsF_y (k := x4.toInt - 1) (k' := x4.toInt) (v := x27.toInt) px10 (by omega) (by omega) (VCx_e f28.1) (by omega))) (by omega)
  exact L7 _ 0 0 1 (none) (none) (by omega) (by rw [l_0, l_1]; rfl) (Nat.lt_succ_self _)

set_option maxRecDepth 20000 in
set_option maxHeartbeats 4000000 in
theorem se_X12_judge {d kc ks : Nat} {h0 : aH} {Q : Option aV → aH → Prop} {ls : List (List (Int × Int) × List (Int × Int))} {l1 : List (List (Int × Int) × List (Int × Int))} {M : Nat → List (List (Int × Int) × List (Int × Int))} (hO0 : OK h0) (hX0 : SX h0) (a1 : Int32) (pre0 : SKm h0) (pre1 : RLn h0 0 ls) (pre2 : ∀ l ∈ ls, lnG l) (pre3 : RXF h0 M) (pre4 : SLm h0) (pre5 : RLn h0 1 l1) (pre6 : ∀ l ∈ l1, lnG l) (pre7 : LDm h0) (pre8 : WRm h0) (hQ : ∀ r h', (∃ x : Int32, r = some (.inl x) ∧ (((0 ≤ a1.toInt ∧ a1.toInt < p2 (fI h0 4)) → x.toInt = WVx (RRm ls l1 h0 M) (fun c => cq (MSm ls l1 h0 M c) (-60) 61) (fI h0 38) a1) ∧ (¬ (0 ≤ a1.toInt ∧ a1.toInt < p2 (fI h0 4)) → x.toInt = -2000000000))) → OK h' → un [80, 81, 105, 106] h0 h' → (SKm h') → Q r h') : uCall Mt (d + 10) 264 [(.inr (.inr (some 69))), (.inl a1)] h0 kc ks Q := by
  have l_m2000000000 : ((-2000000000) : Int32).toInt = -2000000000 := by decide
  have l_0 : ((0) : Int32).toInt = 0 := by decide
  refine uc_ink [some (.inr (.inr (some 69))), some (.inl a1)] mt_264 (Nat.le_of_ble_eq_true rfl) rfl ?_
  obtain ⟨fs1, hc2⟩ := hO0.mod
  obtain ⟨f3, p4, t5⟩ := mf_4 hO0 hc2
  have t6 := fI_of hc2 p4
  obtain ⟨f7, p8, t9⟩ := mf_38 hO0 hc2
  have t10 := fI_of hc2 p8
  have tt11 := p2_r (k := fI h0 4) (by omega)
  refine ur_ldI rfl rfl ?_
  refine ur_if1 rfl (fun c12 => ?_) (fun c12 => ?_)
  · have t13 := lt_to c12
    refine ur_push rfl ?_
    exact ur_ret rfl rfl (hQ _ _ ⟨_, rfl, ⟨fun q => by exfalso; omega, fun _ => by omega⟩⟩ hO0 un.rf pre0)
  · have t14 := lt_no c12
    refine ur_ldI rfl rfl ?_
    refine ur_ldA rfl rfl ?_
    refine ur_get rfl hc2 p4 ?_
    refine ur_binV rfl (fun x15 e16 => ?_)
    have z17 := any_r a1
    have z18 := any_r f3
    have tt19 := shr_0 e16 (by omega) (by omega)
    rw [show f3.toInt = fI h0 4 by omega] at tt19
    refine ur_if1 rfl (fun c20 => ?_) (fun c20 => ?_)
    · have t21 := eq_to c20
      refine ur_ldA rfl rfl ?_
      refine ur_ldI rfl rfl ?_
      refine ur_inl rfl (rcv_of hc2) (Nat.le_of_ble_eq_true rfl) (Nat.le_of_ble_eq_true rfl) (se_X12_findStory hO0 hX0 _ (by show 0 ≤ a1.toInt ∧ a1.toInt ≤ 4095; omega) pre0 pre1 pre2 pre3 pre4 pre5 pre6 pre7 pre8 (fun w22 h27 hr23 hO27 hv27 hp24 hp25 hp26 => ?_))
      have hu27 := hv27
      subst hr23
      show uRun _ (uCall Mt _) _ 21 (_, [], _, _, _)
      have n4_28 : fI h27 4 = fI h0 4 := fI_keep (k := 4) hO0 hO27 hu27 rfl (by decide)
      have n38_29 : fI h27 38 = fI h0 38 := fI_keep (k := 38) hO0 hO27 hu27 rfl (by decide)
      refine ur_ldA rfl rfl ?_
      refine ur_ldI rfl rfl ?_
      obtain ⟨fs30, hc31⟩ := hO27.mod
      obtain ⟨f32, p33, t34⟩ := mf_4 hO27 hc31
      have t35 := fI_of hc31 p33
      obtain ⟨f36, p37, t38⟩ := mf_38 hO27 hc31
      have t39 := fI_of hc31 p37
      have t40 := fI_keep (k := 4) hO0 hO27 hu27 rfl (by decide)
      have t41 := fI_keep (k := 38) hO0 hO27 hu27 rfl (by decide)
      refine ur_inl rfl (rcv_of hc31) (Nat.le_of_ble_eq_true rfl) (Nat.le_of_ble_eq_true rfl) (sd_X12_worthOf hO27 _ (by show 0 ≤ a1.toInt ∧ a1.toInt ≤ 4095; omega) (by omega) (fun c c0 c1 _ => (hp26 c c0 (by omega)).1) (fun w42 hr43 => ?_))
      obtain ⟨x44, rfl, f45⟩ := hr43
      show uRun _ (uCall Mt _) _ 26 (_, [(.inl x44)], _, _, _)
      exact ur_ret rfl rfl (hQ _ _ ⟨_, rfl, ⟨fun _ => (by have q := f45.1; rw [VRx_w hp25 hp26 n38_29 n4_28 (by omega) (gI_fk (a := 96) (kd := 0) (n := 150) hO0 hv27 (by decide) rfl (by decide) rfl (by decide) (by decide)) (fun c c0 c1 b => ⟨b, bt_lt (k := fI h0 4) ⟨by omega, by omega⟩ ⟨c0, c1⟩ b⟩)] at q; exact q), fun q => absurd ⟨by omega, by omega⟩ q⟩⟩ hO27 hu27 hp24)
    · have t46 := eq_no c20
      refine ur_push rfl ?_
      exact ur_ret rfl rfl (hQ _ _ ⟨_, rfl, ⟨fun q => by exfalso; omega, fun _ => by omega⟩⟩ hO0 un.rf pre0)


end WSB3
