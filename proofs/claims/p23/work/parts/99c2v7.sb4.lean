/-! JUDGE AND BEST: sb4 -/
section WSB4
set_option maxRecDepth 20000 in
set_option maxHeartbeats 4000000 in
theorem se_X12_best {d kc ks : Nat} {h0 : aH} {Q : Option aV → aH → Prop} {ls : List (List (Int × Int) × List (Int × Int))} {l1 : List (List (Int × Int) × List (Int × Int))} {M : Nat → List (List (Int × Int) × List (Int × Int))} (hO0 : OK h0) (hX0 : SX h0) (a1 : Int32) (pre0 : SKm h0) (pre1 : RLn h0 0 ls) (pre2 : ∀ l ∈ ls, lnG l) (pre3 : RXF h0 M) (pre4 : SLm h0) (pre5 : RLn h0 1 l1) (pre6 : ∀ l ∈ l1, lnG l) (pre7 : LDm h0) (pre8 : WRm h0) (hQ : ∀ r h', (∃ x : Int32, r = some (.inl x) ∧ (((0 ≤ a1.toInt ∧ a1.toInt ≤ 1) → ∃ n b w, (n ≤ fI h0 4 ∧ n ≤ 6 ∧ (n = fI h0 4 ∨ n = 6)) ∧ bsF (VWx ls l1 h0 M) (p2 n - 1).toNat = (b, w) ∧ (a1.toInt = 0 → x.toInt = b) ∧ (a1.toInt = 1 → x.toInt = w)) ∧ (¬ (0 ≤ a1.toInt ∧ a1.toInt ≤ 1) → x.toInt = -2000000000))) → OK h' → un [80, 81, 105, 106] h0 h' → (SKm h') → Q r h') : uCall Mt (d + 10) 266 [(.inr (.inr (some 69))), (.inl a1)] h0 kc ks Q := by
  have l_m2000000000 : ((-2000000000) : Int32).toInt = -2000000000 := by decide
  have l_0 : ((0) : Int32).toInt = 0 := by decide
  have l_1 : ((1) : Int32).toInt = 1 := by decide
  have l_6 : ((6) : Int32).toInt = 6 := by decide
  refine uc_ink [some (.inr (.inr (some 69))), some (.inl a1), none, none, none, none, none] mt_266 (Nat.le_of_ble_eq_true rfl) rfl ?_
  obtain ⟨fs1, hc2⟩ := hO0.mod
  obtain ⟨f3, p4, t5⟩ := mf_4 hO0 hc2
  have t6 := fI_of hc2 p4
  obtain ⟨f7, p8, t9⟩ := mf_38 hO0 hc2
  have t10 := fI_of hc2 p8
  have tt11 := p2_r (k := fI h0 4) (by omega)
  refine ur_ldI rfl rfl ?_
  refine ur_push rfl ?_
  refine ur_push rfl ?_
  refine ur_callv rfl rfl (Nat.le_of_ble_eq_true rfl) (Nat.le_of_ble_eq_true rfl) rfl (sp_in _ _ _ _ _) ?_
  refine ur_neB rfl (fun c14 => ?_) (fun c14 => ?_)
  · have t15 := wi_toL c14 l_0 l_1
    refine ur_ldA rfl rfl ?_
    refine ur_get rfl hc2 p4 ?_
    refine ur_push rfl ?_
    refine ur_if2 rfl (fun c16 => ?_) (fun c16 => ?_)
    · have t17 := le_to c16
      refine ur_push rfl ?_
      refine ur_svIk [some (.inr (.inr (some 69))), some (.inl a1), some (.inl 6), none, none, none, none] rfl rfl ?_
      refine ur_ldA rfl rfl ?_
      refine ur_push rfl ?_
      refine ur_ldI rfl rfl ?_
      refine ur_binV rfl (fun x18 e19 => ?_)
      have tt20 := shl_p e19 (by omega)
      have tt21 := p2_r (k := (6 : Int32).toInt) (by omega)
      refine ur_push rfl ?_
      refine ur_binV rfl (fun x22 e23 => ?_)
      have z24 := any_r x18
      have t25 := ti_sub e23 (by omega) (by omega)
      refine ur_inl rfl (rcv_of hc2) (Nat.le_of_ble_eq_true rfl) (Nat.le_of_ble_eq_true rfl) (se_X12_findStory hO0 hX0 _ (by show 0 ≤ x22.toInt ∧ x22.toInt ≤ 4095; omega) pre0 pre1 pre2 pre3 pre4 pre5 pre6 pre7 pre8 (fun w26 h31 hr27 hO31 hv31 hp28 hp29 hp30 => ?_))
      have hu31 := hv31
      subst hr27
      show uRun _ (uCall Mt _) _ 40 (_, [], _, _, _)
      have n4_32 : fI h31 4 = fI h0 4 := fI_keep (k := 4) hO0 hO31 hu31 rfl (by decide)
      have n38_33 : fI h31 38 = fI h0 38 := fI_keep (k := 38) hO0 hO31 hu31 rfl (by decide)
      refine ur_push rfl ?_
      refine ur_svIk [some (.inr (.inr (some 69))), some (.inl a1), some (.inl 6), some (.inl 0), none, none, none] rfl rfl ?_
      refine ur_push rfl ?_
      refine ur_svIk [some (.inr (.inr (some 69))), some (.inl a1), some (.inl 6), some (.inl 0), some (.inl 0), none, none] rfl rfl ?_
      refine ur_push rfl ?_
      refine ur_svIk [some (.inr (.inr (some 69))), some (.inl a1), some (.inl 6), some (.inl 0), some (.inl 0), some (.inl 1), none] rfl rfl ?_
      obtain ⟨fs41, hc42⟩ := hO31.mod
      obtain ⟨f43, p44, t45⟩ := mf_4 hO31 hc42
      have t46 := fI_of hc42 p44
      obtain ⟨f47, p48, t49⟩ := mf_38 hO31 hc42
      have t50 := fI_of hc42 p48
      have L38 : ∀ (m39 : Nat) (x34 : Int32) (x35 : Int32) (x36 : Int32) (u37 : Option aV) , ((0 ≤ x34.toInt ∧ x34.toInt ≤ 63) ∧ (0 ≤ x35.toInt ∧ x35.toInt ≤ 450) ∧ (1 ≤ x36.toInt ∧ x36.toInt ≤ 64) ∧ x36.toInt ≤ p2 (6 : Int32).toInt ∧ x34.toInt < x36.toInt) → (bsF (VWx ls l1 h0 M) (x36.toInt - 1).toNat = (x34.toInt, x35.toInt)) → ((65 - x36.toInt).toNat) < m39 → uRun oX12_best (uCall Mt (d + 9)) Q 48 ([some (.inr (.inr (some 69))), some (.inl a1), some (.inl 6), some (.inl x34), some (.inl x35), some (.inl x36), u37], [], h31, kc, ks) := by
        intro m39
        induction m39 with
        | zero => intro x34 x35 x36 u37 iv52 px51 mm53; omega
        | succ m39 ih40 =>
          intro x34 x35 x36 u37 iv52 px51 mm53
          refine ur_ldI rfl rfl ?_
          refine ur_push rfl ?_
          refine ur_ldI rfl rfl ?_
          refine ur_binV rfl (fun x54 e55 => ?_)
          have tt56 := shl_p e55 (by omega)
          have tt57 := p2_r (k := (6 : Int32).toInt) (by omega)
          have z58 := any_r x36
          have z59 := any_r x54
          refine ur_if2 rfl (fun c60 => ?_) (fun c60 => ?_)
          · have t61 := le_to c60
            refine ur_ldI rfl rfl ?_
            refine ur_if1 rfl (fun c62 => ?_) (fun c62 => ?_)
            · have t63 := ne_to c62
              refine ur_ldI rfl rfl ?_
              have t64 := fI_keep (k := 4) hO0 hO31 hu31 rfl (by decide)
              have t65 := fI_keep (k := 38) hO0 hO31 hu31 rfl (by decide)
              exact ur_ret rfl rfl (hQ _ _ ⟨_, rfl, ⟨fun _ => ⟨(6 : Int32).toInt, x34.toInt, x35.toInt, ⟨by omega, by omega, by omega⟩, (by have q := px51; rw [show x36.toInt = p2 (6 : Int32).toInt by omega] at q; exact q), fun _ => by omega, fun _ => by omega⟩, fun q => absurd ⟨by omega, by omega⟩ q⟩⟩ hO31 hu31 hp28)
            · have t66 := ne_no c62
              refine ur_ldI rfl rfl ?_
              refine ur_go rfl ?_
              have t67 := fI_keep (k := 4) hO0 hO31 hu31 rfl (by decide)
              have t68 := fI_keep (k := 38) hO0 hO31 hu31 rfl (by decide)
              exact ur_ret rfl rfl (hQ _ _ ⟨_, rfl, ⟨fun _ => ⟨(6 : Int32).toInt, x34.toInt, x35.toInt, ⟨by omega, by omega, by omega⟩, (by have q := px51; rw [show x36.toInt = p2 (6 : Int32).toInt by omega] at q; exact q), fun _ => by omega, fun _ => by omega⟩, fun q => absurd ⟨by omega, by omega⟩ q⟩⟩ hO31 hu31 hp28)
          · have t69 := le_no c60
            refine ur_ldA rfl rfl ?_
            refine ur_ldI rfl rfl ?_
            have t70 := fI_keep (k := 4) hO0 hO31 hu31 rfl (by decide)
            have t71 := fI_keep (k := 38) hO0 hO31 hu31 rfl (by decide)
            refine ur_inl rfl (rcv_of hc42) (Nat.le_of_ble_eq_true rfl) (Nat.le_of_ble_eq_true rfl) (sd_X12_worthOf hO31 _ (by show 0 ≤ x36.toInt ∧ x36.toInt ≤ 4095; omega) (by omega) (fun c c0 c1 _ => (hp30 c c0 (by omega)).1) (fun w72 hr73 => ?_))
            obtain ⟨x74, rfl, f75⟩ := hr73
            show uRun _ (uCall Mt _) _ 62 (_, [(.inl x74)], _, _, _)
            refine ur_svIk [some (.inr (.inr (some 69))), some (.inl a1), some (.inl 6), some (.inl x34), some (.inl x35), some (.inl x36), some (.inl x74)] rfl rfl ?_
            refine ur_ldI rfl rfl ?_
            refine ur_ldI rfl rfl ?_
            have z76 := any_r x74
            have z77 := any_r x35
            refine ur_if2 rfl (fun c78 => ?_) (fun c78 => ?_)
            · have t79 := lt_to c78
              refine ur_incV (fun z => [some (.inr (.inr (some 69))), some (.inl a1), some (.inl 6), some (.inl x34), some (.inl x35), some (.inl z), some (.inl x74)]) rfl rfl (fun _ => rfl) (fun x80 e81 => ?_)
              have t82 := ti_add e81 (by omega) (by omega)
              refine ur_go rfl ?_
              have z83 := any_r x34
              have z84 := any_r x80
              exact ih40 x34 x35 x80 _ (by omega) (by have q1 := nbi_e (S := x36) (by omega); have q2 := nbi_e (S := x34) (by omega); rw [show x80.toInt - 1 = x36.toInt by omega]; exact bsF_n (k := x36.toInt - 1) (k' := x36.toInt) (v := x74.toInt) px51 (by omega) (by omega) (VWx_e (by have q := f75.1; rw [VRx_w hp29 hp30 n38_33 n4_32 (by omega) (gI_fk (a := 96) (kd := 0) (n := 150) hO0 hv31 (by decide) rfl (by decide) rfl (by decide) (by decide)) (fun c c0 c1 b => by have l := bt_lt (S := x36) (k := (6 : Int32).toInt) ⟨by omega, by omega⟩ ⟨c0, c1⟩ b; exact ⟨bt_all (A := x22) (n := (6 : Int32).toInt) (by omega) (by omega) c0 l, by omega⟩)] at q; exact q)) (by omega)) (by omega)
            · have t85 := lt_no c78
              refine ur_ldI rfl rfl ?_
              refine ur_ldI rfl rfl ?_
              refine ur_if2 rfl (fun c86 => ?_) (fun c86 => ?_)
              · have t87 := ne_to c86
                refine ur_ldI rfl rfl ?_
                refine ur_svIk [some (.inr (.inr (some 69))), some (.inl a1), some (.inl 6), some (.inl x36), some (.inl x35), some (.inl x36), some (.inl x74)] rfl rfl ?_
                refine ur_ldI rfl rfl ?_
                refine ur_svIk [some (.inr (.inr (some 69))), some (.inl a1), some (.inl 6), some (.inl x36), some (.inl x74), some (.inl x36), some (.inl x74)] rfl rfl ?_
                refine ur_incV (fun z => [some (.inr (.inr (some 69))), some (.inl a1), some (.inl 6), some (.inl x36), some (.inl x74), some (.inl z), some (.inl x74)]) rfl rfl (fun _ => rfl) (fun x88 e89 => ?_)
                have t90 := ti_add e89 (by omega) (by omega)
                refine ur_go rfl ?_
                have z91 := any_r x88
                exact ih40 x36 x74 x88 _ (by omega) (by have q1 := nbi_e (S := x36) (by omega); have q2 := nbi_e (S := x34) (by omega); rw [show x88.toInt - 1 = x36.toInt by omega]; exact bsF_y (k := x36.toInt - 1) (k' := x36.toInt) (v := x74.toInt) px51 (by omega) (by omega) (VWx_e (by have q := f75.1; rw [VRx_w hp29 hp30 n38_33 n4_32 (by omega) (gI_fk (a := 96) (kd := 0) (n := 150) hO0 hv31 (by decide) rfl (by decide) rfl (by decide) (by decide)) (fun c c0 c1 b => by have l := bt_lt (S := x36) (k := (6 : Int32).toInt) ⟨by omega, by omega⟩ ⟨c0, c1⟩ b; exact ⟨bt_all (A := x22) (n := (6 : Int32).toInt) (by omega) (by omega) c0 l, by omega⟩)] at q; exact q)) (by omega)) (by omega)
              · have t92 := ne_no c86
                refine ur_ldI rfl rfl ?_
                refine ur_inl rfl rfl (Nat.le_of_ble_eq_true rfl) (Nat.le_of_ble_eq_true rfl) (sy_X12_bitsOf _ (by show 0 ≤ x36.toInt ∧ x36.toInt ≤ 4095; omega) (fun w93 hr94 => ?_))
                obtain ⟨x95, rfl, f96⟩ := hr94
                show uRun _ (uCall Mt _) _ 83 (_, [(.inl x95)], _, _, _)
                refine ur_ldI rfl rfl ?_
                refine ur_inl rfl rfl (Nat.le_of_ble_eq_true rfl) (Nat.le_of_ble_eq_true rfl) (sy_X12_bitsOf _ (by show 0 ≤ x34.toInt ∧ x34.toInt ≤ 4095; omega) (fun w97 hr98 => ?_))
                obtain ⟨x99, rfl, f100⟩ := hr98
                show uRun _ (uCall Mt _) _ 87 (_, [(.inl x99), (.inl x95)], _, _, _)
                have z101 := any_r x95
                have z102 := any_r x99
                refine ur_if2 rfl (fun c103 => ?_) (fun c103 => ?_)
                · have t104 := lt_to c103
                  refine ur_ldI rfl rfl ?_
                  refine ur_svIk [some (.inr (.inr (some 69))), some (.inl a1), some (.inl 6), some (.inl x36), some (.inl x35), some (.inl x36), some (.inl x74)] rfl rfl ?_
                  refine ur_ldI rfl rfl ?_
                  refine ur_svIk [some (.inr (.inr (some 69))), some (.inl a1), some (.inl 6), some (.inl x36), some (.inl x74), some (.inl x36), some (.inl x74)] rfl rfl ?_
                  refine ur_incV (fun z => [some (.inr (.inr (some 69))), some (.inl a1), some (.inl 6), some (.inl x36), some (.inl x74), some (.inl z), some (.inl x74)]) rfl rfl (fun _ => rfl) (fun x105 e106 => ?_)
                  have t107 := ti_add e106 (by omega) (by omega)
                  refine ur_go rfl ?_
                  have z108 := any_r x105
                  exact ih40 x36 x74 x105 _ (by omega) (by have q1 := nbi_e (S := x36) (by omega); have q2 := nbi_e (S := x34) (by omega); rw [show x105.toInt - 1 = x36.toInt by omega]; exact bsF_y (k := x36.toInt - 1) (k' := x36.toInt) (v := x74.toInt) px51 (by omega) (by omega) (VWx_e (by have q := f75.1; rw [VRx_w hp29 hp30 n38_33 n4_32 (by omega) (gI_fk (a := 96) (kd := 0) (n := 150) hO0 hv31 (by decide) rfl (by decide) rfl (by decide) (by decide)) (fun c c0 c1 b => by have l := bt_lt (S := x36) (k := (6 : Int32).toInt) ⟨by omega, by omega⟩ ⟨c0, c1⟩ b; exact ⟨bt_all (A := x22) (n := (6 : Int32).toInt) (by omega) (by omega) c0 l, by omega⟩)] at q; exact q)) (by omega)) (by omega)
                · have t109 := lt_no c103
                  refine ur_go rfl ?_
                  refine ur_incV (fun z => [some (.inr (.inr (some 69))), some (.inl a1), some (.inl 6), some (.inl x34), some (.inl x35), some (.inl z), some (.inl x74)]) rfl rfl (fun _ => rfl) (fun x110 e111 => ?_)
                  have t112 := ti_add e111 (by omega) (by omega)
                  refine ur_go rfl ?_
                  have z113 := any_r x34
                  have z114 := any_r x110
                  exact ih40 x34 x35 x110 _ (by omega) (by have q1 := nbi_e (S := x36) (by omega); have q2 := nbi_e (S := x34) (by omega); rw [show x110.toInt - 1 = x36.toInt by omega]; exact bsF_n (k := x36.toInt - 1) (k' := x36.toInt) (v := x74.toInt) px51 (by omega) (by omega) (VWx_e (by have q := f75.1; rw [VRx_w hp29 hp30 n38_33 n4_32 (by omega) (gI_fk (a := 96) (kd := 0) (n := 150) hO0 hv31 (by decide) rfl (by decide) rfl (by decide) (by decide)) (fun c c0 c1 b => by have l := bt_lt (S := x36) (k := (6 : Int32).toInt) ⟨by omega, by omega⟩ ⟨c0, c1⟩ b; exact ⟨bt_all (A := x22) (n := (6 : Int32).toInt) (by omega) (by omega) c0 l, by omega⟩)] at q; exact q)) (by omega)) (by omega)
      exact L38 _ 0 0 1 (none) (by omega) (by rw [l_0, l_1]; rfl) (Nat.lt_succ_self _)
    · have t115 := le_no c16
      refine ur_ldA rfl rfl ?_
      refine ur_get rfl hc2 p4 ?_
      refine ur_go rfl ?_
      refine ur_svIk [some (.inr (.inr (some 69))), some (.inl a1), some (.inl f3), none, none, none, none] rfl rfl ?_
      refine ur_ldA rfl rfl ?_
      refine ur_push rfl ?_
      refine ur_ldI rfl rfl ?_
      refine ur_binV rfl (fun x116 e117 => ?_)
      have tt118 := shl_p e117 (by omega)
      have tt119 := p2_r (k := f3.toInt) (by omega)
      refine ur_push rfl ?_
      refine ur_binV rfl (fun x120 e121 => ?_)
      have z122 := any_r x116
      have t123 := ti_sub e121 (by omega) (by omega)
      refine ur_inl rfl (rcv_of hc2) (Nat.le_of_ble_eq_true rfl) (Nat.le_of_ble_eq_true rfl) (se_X12_findStory hO0 hX0 _ (by show 0 ≤ x120.toInt ∧ x120.toInt ≤ 4095; omega) pre0 pre1 pre2 pre3 pre4 pre5 pre6 pre7 pre8 (fun w124 h129 hr125 hO129 hv129 hp126 hp127 hp128 => ?_))
      have hu129 := hv129
      subst hr125
      show uRun _ (uCall Mt _) _ 40 (_, [], _, _, _)
      have n4_130 : fI h129 4 = fI h0 4 := fI_keep (k := 4) hO0 hO129 hu129 rfl (by decide)
      have n38_131 : fI h129 38 = fI h0 38 := fI_keep (k := 38) hO0 hO129 hu129 rfl (by decide)
      refine ur_push rfl ?_
      refine ur_svIk [some (.inr (.inr (some 69))), some (.inl a1), some (.inl f3), some (.inl 0), none, none, none] rfl rfl ?_
      refine ur_push rfl ?_
      refine ur_svIk [some (.inr (.inr (some 69))), some (.inl a1), some (.inl f3), some (.inl 0), some (.inl 0), none, none] rfl rfl ?_
      refine ur_push rfl ?_
      refine ur_svIk [some (.inr (.inr (some 69))), some (.inl a1), some (.inl f3), some (.inl 0), some (.inl 0), some (.inl 1), none] rfl rfl ?_
      obtain ⟨fs139, hc140⟩ := hO129.mod
      obtain ⟨f141, p142, t143⟩ := mf_4 hO129 hc140
      have t144 := fI_of hc140 p142
      obtain ⟨f145, p146, t147⟩ := mf_38 hO129 hc140
      have t148 := fI_of hc140 p146
      have L136 : ∀ (m137 : Nat) (x132 : Int32) (x133 : Int32) (x134 : Int32) (u135 : Option aV) , ((0 ≤ x132.toInt ∧ x132.toInt ≤ 63) ∧ (0 ≤ x133.toInt ∧ x133.toInt ≤ 450) ∧ (1 ≤ x134.toInt ∧ x134.toInt ≤ 64) ∧ x134.toInt ≤ p2 f3.toInt ∧ x132.toInt < x134.toInt) → (bsF (VWx ls l1 h0 M) (x134.toInt - 1).toNat = (x132.toInt, x133.toInt)) → ((65 - x134.toInt).toNat) < m137 → uRun oX12_best (uCall Mt (d + 9)) Q 48 ([some (.inr (.inr (some 69))), some (.inl a1), some (.inl f3), some (.inl x132), some (.inl x133), some (.inl x134), u135], [], h129, kc, ks) := by
        intro m137
        induction m137 with
        | zero => intro x132 x133 x134 u135 iv150 px149 mm151; omega
        | succ m137 ih138 =>
          intro x132 x133 x134 u135 iv150 px149 mm151
          refine ur_ldI rfl rfl ?_
          refine ur_push rfl ?_
          refine ur_ldI rfl rfl ?_
          refine ur_binV rfl (fun x152 e153 => ?_)
          have tt154 := shl_p e153 (by omega)
          have tt155 := p2_r (k := f3.toInt) (by omega)
          have z156 := any_r x134
          have z157 := any_r x152
          refine ur_if2 rfl (fun c158 => ?_) (fun c158 => ?_)
          · have t159 := le_to c158
            refine ur_ldI rfl rfl ?_
            refine ur_if1 rfl (fun c160 => ?_) (fun c160 => ?_)
            · have t161 := ne_to c160
              refine ur_ldI rfl rfl ?_
              have t162 := fI_keep (k := 4) hO0 hO129 hu129 rfl (by decide)
              have t163 := fI_keep (k := 38) hO0 hO129 hu129 rfl (by decide)
              exact ur_ret rfl rfl (hQ _ _ ⟨_, rfl, ⟨fun _ => ⟨f3.toInt, x132.toInt, x133.toInt, ⟨by omega, by omega, by omega⟩, (by have q := px149; rw [show x134.toInt = p2 f3.toInt by omega] at q; exact q), fun _ => by omega, fun _ => by omega⟩, fun q => absurd ⟨by omega, by omega⟩ q⟩⟩ hO129 hu129 hp126)
            · have t164 := ne_no c160
              refine ur_ldI rfl rfl ?_
              refine ur_go rfl ?_
              have t165 := fI_keep (k := 4) hO0 hO129 hu129 rfl (by decide)
              have t166 := fI_keep (k := 38) hO0 hO129 hu129 rfl (by decide)
              exact ur_ret rfl rfl (hQ _ _ ⟨_, rfl, ⟨fun _ => ⟨f3.toInt, x132.toInt, x133.toInt, ⟨by omega, by omega, by omega⟩, (by have q := px149; rw [show x134.toInt = p2 f3.toInt by omega] at q; exact q), fun _ => by omega, fun _ => by omega⟩, fun q => absurd ⟨by omega, by omega⟩ q⟩⟩ hO129 hu129 hp126)
          · have t167 := le_no c158
            refine ur_ldA rfl rfl ?_
            refine ur_ldI rfl rfl ?_
            have t168 := fI_keep (k := 4) hO0 hO129 hu129 rfl (by decide)
            have t169 := fI_keep (k := 38) hO0 hO129 hu129 rfl (by decide)
            refine ur_inl rfl (rcv_of hc140) (Nat.le_of_ble_eq_true rfl) (Nat.le_of_ble_eq_true rfl) (sd_X12_worthOf hO129 _ (by show 0 ≤ x134.toInt ∧ x134.toInt ≤ 4095; omega) (by omega) (fun c c0 c1 _ => (hp128 c c0 (by omega)).1) (fun w170 hr171 => ?_))
            obtain ⟨x172, rfl, f173⟩ := hr171
            show uRun _ (uCall Mt _) _ 62 (_, [(.inl x172)], _, _, _)
            refine ur_svIk [some (.inr (.inr (some 69))), some (.inl a1), some (.inl f3), some (.inl x132), some (.inl x133), some (.inl x134), some (.inl x172)] rfl rfl ?_
            refine ur_ldI rfl rfl ?_
            refine ur_ldI rfl rfl ?_
            have z174 := any_r x172
            have z175 := any_r x133
            refine ur_if2 rfl (fun c176 => ?_) (fun c176 => ?_)
            · have t177 := lt_to c176
              refine ur_incV (fun z => [some (.inr (.inr (some 69))), some (.inl a1), some (.inl f3), some (.inl x132), some (.inl x133), some (.inl z), some (.inl x172)]) rfl rfl (fun _ => rfl) (fun x178 e179 => ?_)
              have t180 := ti_add e179 (by omega) (by omega)
              refine ur_go rfl ?_
              have z181 := any_r x132
              have z182 := any_r x178
              exact ih138 x132 x133 x178 _ (by omega) (by have q1 := nbi_e (S := x134) (by omega); have q2 := nbi_e (S := x132) (by omega); rw [show x178.toInt - 1 = x134.toInt by omega]; exact bsF_n (k := x134.toInt - 1) (k' := x134.toInt) (v := x172.toInt) px149 (by omega) (by omega) (VWx_e (by have q := f173.1; rw [VRx_w hp127 hp128 n38_131 n4_130 (by omega) (gI_fk (a := 96) (kd := 0) (n := 150) hO0 hv129 (by decide) rfl (by decide) rfl (by decide) (by decide)) (fun c c0 c1 b => by have l := bt_lt (S := x134) (k := f3.toInt) ⟨by omega, by omega⟩ ⟨c0, c1⟩ b; exact ⟨bt_all (A := x120) (n := f3.toInt) (by omega) (by omega) c0 l, by omega⟩)] at q; exact q)) (by omega)) (by omega)
            · have t183 := lt_no c176
              refine ur_ldI rfl rfl ?_
              refine ur_ldI rfl rfl ?_
              refine ur_if2 rfl (fun c184 => ?_) (fun c184 => ?_)
              · have t185 := ne_to c184
                refine ur_ldI rfl rfl ?_
                refine ur_svIk [some (.inr (.inr (some 69))), some (.inl a1), some (.inl f3), some (.inl x134), some (.inl x133), some (.inl x134), some (.inl x172)] rfl rfl ?_
                refine ur_ldI rfl rfl ?_
                refine ur_svIk [some (.inr (.inr (some 69))), some (.inl a1), some (.inl f3), some (.inl x134), some (.inl x172), some (.inl x134), some (.inl x172)] rfl rfl ?_
                refine ur_incV (fun z => [some (.inr (.inr (some 69))), some (.inl a1), some (.inl f3), some (.inl x134), some (.inl x172), some (.inl z), some (.inl x172)]) rfl rfl (fun _ => rfl) (fun x186 e187 => ?_)
                have t188 := ti_add e187 (by omega) (by omega)
                refine ur_go rfl ?_
                have z189 := any_r x186
                exact ih138 x134 x172 x186 _ (by omega) (by have q1 := nbi_e (S := x134) (by omega); have q2 := nbi_e (S := x132) (by omega); rw [show x186.toInt - 1 = x134.toInt by omega]; exact bsF_y (k := x134.toInt - 1) (k' := x134.toInt) (v := x172.toInt) px149 (by omega) (by omega) (VWx_e (by have q := f173.1; rw [VRx_w hp127 hp128 n38_131 n4_130 (by omega) (gI_fk (a := 96) (kd := 0) (n := 150) hO0 hv129 (by decide) rfl (by decide) rfl (by decide) (by decide)) (fun c c0 c1 b => by have l := bt_lt (S := x134) (k := f3.toInt) ⟨by omega, by omega⟩ ⟨c0, c1⟩ b; exact ⟨bt_all (A := x120) (n := f3.toInt) (by omega) (by omega) c0 l, by omega⟩)] at q; exact q)) (by omega)) (by omega)
              · have t190 := ne_no c184
                refine ur_ldI rfl rfl ?_
                refine ur_inl rfl rfl (Nat.le_of_ble_eq_true rfl) (Nat.le_of_ble_eq_true rfl) (sy_X12_bitsOf _ (by show 0 ≤ x134.toInt ∧ x134.toInt ≤ 4095; omega) (fun w191 hr192 => ?_))
                obtain ⟨x193, rfl, f194⟩ := hr192
                show uRun _ (uCall Mt _) _ 83 (_, [(.inl x193)], _, _, _)
                refine ur_ldI rfl rfl ?_
                refine ur_inl rfl rfl (Nat.le_of_ble_eq_true rfl) (Nat.le_of_ble_eq_true rfl) (sy_X12_bitsOf _ (by show 0 ≤ x132.toInt ∧ x132.toInt ≤ 4095; omega) (fun w195 hr196 => ?_))
                obtain ⟨x197, rfl, f198⟩ := hr196
                show uRun _ (uCall Mt _) _ 87 (_, [(.inl x197), (.inl x193)], _, _, _)
                have z199 := any_r x193
                have z200 := any_r x197
                refine ur_if2 rfl (fun c201 => ?_) (fun c201 => ?_)
                · have t202 := lt_to c201
                  refine ur_ldI rfl rfl ?_
                  refine ur_svIk [some (.inr (.inr (some 69))), some (.inl a1), some (.inl f3), some (.inl x134), some (.inl x133), some (.inl x134), some (.inl x172)] rfl rfl ?_
                  refine ur_ldI rfl rfl ?_
                  refine ur_svIk [some (.inr (.inr (some 69))), some (.inl a1), some (.inl f3), some (.inl x134), some (.inl x172), some (.inl x134), some (.inl x172)] rfl rfl ?_
                  refine ur_incV (fun z => [some (.inr (.inr (some 69))), some (.inl a1), some (.inl f3), some (.inl x134), some (.inl x172), some (.inl z), some (.inl x172)]) rfl rfl (fun _ => rfl) (fun x203 e204 => ?_)
                  have t205 := ti_add e204 (by omega) (by omega)
                  refine ur_go rfl ?_
                  have z206 := any_r x203
                  exact ih138 x134 x172 x203 _ (by omega) (by have q1 := nbi_e (S := x134) (by omega); have q2 := nbi_e (S := x132) (by omega); rw [show x203.toInt - 1 = x134.toInt by omega]; exact bsF_y (k := x134.toInt - 1) (k' := x134.toInt) (v := x172.toInt) px149 (by omega) (by omega) (VWx_e (by have q := f173.1; rw [VRx_w hp127 hp128 n38_131 n4_130 (by omega) (gI_fk (a := 96) (kd := 0) (n := 150) hO0 hv129 (by decide) rfl (by decide) rfl (by decide) (by decide)) (fun c c0 c1 b => by have l := bt_lt (S := x134) (k := f3.toInt) ⟨by omega, by omega⟩ ⟨c0, c1⟩ b; exact ⟨bt_all (A := x120) (n := f3.toInt) (by omega) (by omega) c0 l, by omega⟩)] at q; exact q)) (by omega)) (by omega)
                · have t207 := lt_no c201
                  refine ur_go rfl ?_
                  refine ur_incV (fun z => [some (.inr (.inr (some 69))), some (.inl a1), some (.inl f3), some (.inl x132), some (.inl x133), some (.inl z), some (.inl x172)]) rfl rfl (fun _ => rfl) (fun x208 e209 => ?_)
                  have t210 := ti_add e209 (by omega) (by omega)
                  refine ur_go rfl ?_
                  have z211 := any_r x132
                  have z212 := any_r x208
                  exact ih138 x132 x133 x208 _ (by omega) (by have q1 := nbi_e (S := x134) (by omega); have q2 := nbi_e (S := x132) (by omega); rw [show x208.toInt - 1 = x134.toInt by omega]; exact bsF_n (k := x134.toInt - 1) (k' := x134.toInt) (v := x172.toInt) px149 (by omega) (by omega) (VWx_e (by have q := f173.1; rw [VRx_w hp127 hp128 n38_131 n4_130 (by omega) (gI_fk (a := 96) (kd := 0) (n := 150) hO0 hv129 (by decide) rfl (by decide) rfl (by decide) (by decide)) (fun c c0 c1 b => by have l := bt_lt (S := x134) (k := f3.toInt) ⟨by omega, by omega⟩ ⟨c0, c1⟩ b; exact ⟨bt_all (A := x120) (n := f3.toInt) (by omega) (by omega) c0 l, by omega⟩)] at q; exact q)) (by omega)) (by omega)
      exact L136 _ 0 0 1 (none) (by omega) (by rw [l_0, l_1]; rfl) (Nat.lt_succ_self _)
  · have t213 := wi_noL c14 l_0 l_1
    refine ur_push rfl ?_
    exact ur_ret rfl rfl (hQ _ _ ⟨_, rfl, ⟨fun q => by exfalso; omega, fun _ => by omega⟩⟩ hO0 un.rf pre0)

end WSB4
