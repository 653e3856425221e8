/-! THE SKY of the reference is kept; printed by program -/
section SKY8
set_option maxRecDepth 20000 in
set_option maxHeartbeats 4000000 in
theorem sd_X12_stands {d kc ks : Nat} {h0 : aH} {Q : Option aV → aH → Prop} (hO0 : OK h0) (hX0 : SX h0) (a1 : Int32) (a2 : Int32) (a3 : Int32) (a4 : Int32) (pre0 : SKm h0) (hQ : ∀ r h', (∃ x, r = some (.inl x)) → OK h' → un [80, 81] h0 h' → (SKm h') → Q r h') : uCall Mt (d + 6) 209 [(.inr (.inr (some 69))), (.inl a1), (.inl a2), (.inl a3), (.inl a4)] h0 kc ks Q := by
  have l_m60 : ((-60) : Int32).toInt = -60 := by decide
  have l_m2 : ((-2) : Int32).toInt = -2 := by decide
  have l_m1 : ((-1) : Int32).toInt = -1 := by decide
  have l_0 : ((0) : Int32).toInt = 0 := by decide
  have l_1 : ((1) : Int32).toInt = 1 := by decide
  have l_2 : ((2) : Int32).toInt = 2 := by decide
  have l_3 : ((3) : Int32).toInt = 3 := by decide
  have l_60 : ((60) : Int32).toInt = 60 := by decide
  have l_999999 : ((999999) : Int32).toInt = 999999 := by decide
  refine uc_ink [some (.inr (.inr (some 69))), some (.inl a1), some (.inl a2), some (.inl a3), some (.inl a4), none] mt_209 (Nat.le_of_ble_eq_true rfl) rfl ?_
  obtain ⟨fs1, hc2⟩ := hO0.mod
  obtain ⟨f3, p4, t5⟩ := mf_4 hO0 hc2
  have t6 := fI_of hc2 p4
  refine ur_ldA rfl rfl ?_
  refine ur_ldI rfl rfl ?_
  refine ur_inl rfl (rcv_of hc2) (Nat.le_of_ble_eq_true rfl) (Nat.le_of_ble_eq_true rfl) (sg_isComet hO0 _ (fun w7 hr8 => ?_))
  obtain ⟨b9, rfl, t10⟩ := hr8
  show uRun _ (uCall Mt _) _ 5 (_, [(.inl (bi b9))], _, _, _)
  refine ur_eqB rfl (fun c11 => ?_) (fun c11 => ?_)
  · clear t10
    refine ur_push rfl ?_
    exact ur_ret rfl rfl (hQ _ _ ⟨_, rfl⟩ hO0 un.rf pre0)
  · have t12 := t10 c11
    clear t10
    refine ur_ldI rfl rfl ?_
    refine ur_callv rfl rfl (Nat.le_of_ble_eq_true rfl) (Nat.le_of_ble_eq_true rfl) rfl (sq_isRet _ _) ?_
    refine ur_eqB rfl (fun c15 => ?_) (fun c15 => ?_)
    · have t16 := wi_noL c15 l_m60 l_60
      refine ur_push rfl ?_
      exact ur_ret rfl rfl (hQ _ _ ⟨_, rfl⟩ hO0 un.rf pre0)
    · have t17 := wi_toL c15 l_m60 l_60
      refine ur_ldI rfl rfl ?_
      refine ur_callv rfl rfl (Nat.le_of_ble_eq_true rfl) (Nat.le_of_ble_eq_true rfl) rfl (sq_isDay _ _) ?_
      refine ur_eqB rfl (fun c20 => ?_) (fun c20 => ?_)
      · have t21 := wi_noL c20 l_0 l_999999
        refine ur_push rfl ?_
        exact ur_ret rfl rfl (hQ _ _ ⟨_, rfl⟩ hO0 un.rf pre0)
      · have t22 := wi_toL c20 l_0 l_999999
        refine ur_ldI rfl rfl ?_
        refine ur_push rfl ?_
        refine ur_push rfl ?_
        refine ur_callv rfl rfl (Nat.le_of_ble_eq_true rfl) (Nat.le_of_ble_eq_true rfl) rfl (sp_in _ _ _ _ _) ?_
        refine ur_neB rfl (fun c25 => ?_) (fun c25 => ?_)
        · have t26 := wi_toL c25 l_0 l_3
          refine ur_ldA rfl rfl ?_
          refine ur_ldI rfl rfl ?_
          refine ur_ldI rfl rfl ?_
          refine ur_inl rfl (rcv_of hc2) (Nat.le_of_ble_eq_true rfl) (Nat.le_of_ble_eq_true rfl) (sd_X12_passOf hO0 hX0 _ (by show 0 ≤ a1.toInt ∧ a1.toInt ≤ 11; omega) _ (by show -60 ≤ a2.toInt ∧ a2.toInt ≤ 60; omega) pre0 (by omega) (fun w27 h30 hr28 hO30 hv30 hp29 => ?_))
          have hu30 := hv30
          obtain ⟨x31, rfl, f32⟩ := hr28
          show uRun _ (uCall Mt _) _ 40 (_, [(.inl x31)], _, _, _)
          refine ur_svIk [some (.inr (.inr (some 69))), some (.inl a1), some (.inl a2), some (.inl a3), some (.inl a4), some (.inl x31)] rfl rfl ?_
          refine ur_ldI rfl rfl ?_
          refine ur_if1 rfl (fun c33 => ?_) (fun c33 => ?_)
          · have t34 := lt_to c33
            refine ur_push rfl ?_
            obtain ⟨fs35, hc36⟩ := hO30.mod
            obtain ⟨f37, p38, t39⟩ := mf_4 hO30 hc36
            have t40 := fI_of hc36 p38
            have t41 := fI_keep (k := 4) hO0 hO30 hu30 rfl (by decide)
            exact ur_ret rfl rfl (hQ _ _ ⟨_, rfl⟩ hO30 hu30 hp29)
          · have t42 := lt_no c33
            refine ur_ldA rfl rfl ?_
            refine ur_ldI rfl rfl ?_
            refine ur_ldI rfl rfl ?_
            refine ur_ldI rfl rfl ?_
            obtain ⟨fs43, hc44⟩ := hO30.mod
            obtain ⟨f45, p46, t47⟩ := mf_4 hO30 hc44
            have t48 := fI_of hc44 p46
            have t49 := fI_keep (k := 4) hO0 hO30 hu30 rfl (by decide)
            refine ur_inl rfl (rcv_of hc44) (Nat.le_of_ble_eq_true rfl) (Nat.le_of_ble_eq_true rfl) (sf_X12_standsOn hO30 (hX0.un hO0 hO30 hu30 (by decide)) _ (by show 0 ≤ a1.toInt ∧ a1.toInt ≤ 11; omega) _ _ (by omega) (fun w50 h52 hr51 hO52 hv52 => ?_))
            have hu52 : un [80, 81] h30 h52 := hv52.mono (by decide)
            obtain ⟨b53, rfl⟩ := hr51
            show uRun _ (uCall Mt _) _ 55 (_, [(.inl (bi b53))], _, _, _)
            refine ur_neB rfl (fun c54 => ?_) (fun c54 => ?_)
            · refine ur_ldI rfl rfl ?_
              refine ur_if1 rfl (fun c55 => ?_) (fun c55 => ?_)
              · have t56 := ne_to c55
                refine ur_ldI rfl rfl ?_
                refine ur_push rfl ?_
                refine ur_if2 rfl (fun c57 => ?_) (fun c57 => ?_)
                · have t58 := ne_to c57
                  refine ur_ldI rfl rfl ?_
                  refine ur_push rfl ?_
                  refine ur_if2 rfl (fun c59 => ?_) (fun c59 => ?_)
                  · have t60 := ne_to c59
                    refine ur_ldA rfl rfl ?_
                    refine ur_ldI rfl rfl ?_
                    refine ur_push rfl ?_
                    refine ur_ldI rfl rfl ?_
                    obtain ⟨fs61, hc62⟩ := hO52.mod
                    have t63 := fI_keep (k := 4) hO0 hO52 (hu30.tr hu52) rfl (by decide)
                    refine ur_inl rfl (rcv_of hc62) (Nat.le_of_ble_eq_true rfl) (Nat.le_of_ble_eq_true rfl) (sf_X12_tailNow hO52 (hX0.un hO0 hO52 (hu30.tr hu52) (by decide)) _ (by show 0 ≤ a1.toInt ∧ a1.toInt ≤ 11; omega) _ _ (fun w64 h66 hr65 hO66 hv66 => ?_))
                    have hu66 : un [80, 81] h52 h66 := hv66.mono (by decide)
                    obtain ⟨x67, rfl, t68⟩ := hr65
                    show uRun _ (uCall Mt _) _ 107 (_, [(.inl x67)], _, _, _)
                    obtain ⟨fs69, hc70⟩ := hO66.mod
                    obtain ⟨f71, p72, t73⟩ := mf_4 hO66 hc70
                    have t74 := fI_of hc70 p72
                    have t75 := fI_keep (k := 4) hO0 hO66 (hu30.tr (hu52.tr hu66)) rfl (by decide)
                    exact ur_ret rfl rfl (hQ _ _ ⟨_, rfl⟩ hO66 (hu30.tr (hu52.tr hu66)) ((hp29.un hO30 hO52 hv52 (by decide)).un hO52 hO66 hv66 (by decide)))
                  · have t76 := ne_no c59
                    refine ur_ldA rfl rfl ?_
                    refine ur_ldI rfl rfl ?_
                    obtain ⟨fs77, hc78⟩ := hO52.mod
                    have t79 := fI_keep (k := 4) hO0 hO52 (hu30.tr hu52) rfl (by decide)
                    refine ur_inl rfl (rcv_of hc78) (Nat.le_of_ble_eq_true rfl) (Nat.le_of_ble_eq_true rfl) (sf_X12_sunApart hO52 _ (fun w80 hr81 => ?_))
                    obtain ⟨x82, rfl⟩ := hr81
                    show uRun _ (uCall Mt _) _ 97 (_, [(.inl x82)], _, _, _)
                    refine ur_go rfl ?_
                    obtain ⟨f83, p84, t85⟩ := mf_4 hO52 hc78
                    have t86 := fI_of hc78 p84
                    exact ur_ret rfl rfl (hQ _ _ ⟨_, rfl⟩ hO52 (hu30.tr hu52) (hp29.un hO30 hO52 hv52 (by decide)))
                · have t87 := ne_no c57
                  refine ur_ldA rfl rfl ?_
                  obtain ⟨fs88, hc89⟩ := hO52.mod
                  obtain ⟨f90, p91⟩ := mf_16 hO52 hc89
                  refine ur_get rfl hc89 p91 ?_
                  refine ur_go rfl ?_
                  obtain ⟨f92, p93, t94⟩ := mf_4 hO52 hc89
                  have t95 := fI_of hc89 p93
                  have t96 := fI_keep (k := 4) hO0 hO52 (hu30.tr hu52) rfl (by decide)
                  exact ur_ret rfl rfl (hQ _ _ ⟨_, rfl⟩ hO52 (hu30.tr hu52) (hp29.un hO30 hO52 hv52 (by decide)))
              · have t97 := ne_no c55
                refine ur_ldA rfl rfl ?_
                obtain ⟨fs98, hc99⟩ := hO52.mod
                obtain ⟨f100, p101⟩ := mf_15 hO52 hc99
                refine ur_get rfl hc99 p101 ?_
                refine ur_go rfl ?_
                obtain ⟨f102, p103, t104⟩ := mf_4 hO52 hc99
                have t105 := fI_of hc99 p103
                have t106 := fI_keep (k := 4) hO0 hO52 (hu30.tr hu52) rfl (by decide)
                exact ur_ret rfl rfl (hQ _ _ ⟨_, rfl⟩ hO52 (hu30.tr hu52) (hp29.un hO30 hO52 hv52 (by decide)))
            · refine ur_push rfl ?_
              obtain ⟨fs107, hc108⟩ := hO52.mod
              obtain ⟨f109, p110, t111⟩ := mf_4 hO52 hc108
              have t112 := fI_of hc108 p110
              have t113 := fI_keep (k := 4) hO0 hO52 (hu30.tr hu52) rfl (by decide)
              exact ur_ret rfl rfl (hQ _ _ ⟨_, rfl⟩ hO52 (hu30.tr hu52) (hp29.un hO30 hO52 hv52 (by decide)))
        · have t114 := wi_noL c25 l_0 l_3
          refine ur_push rfl ?_
          exact ur_ret rfl rfl (hQ _ _ ⟨_, rfl⟩ hO0 un.rf pre0)

set_option maxRecDepth 20000 in
set_option maxHeartbeats 4000000 in
theorem sd_X12_seenBy {d kc ks : Nat} {h0 : aH} {Q : Option aV → aH → Prop} (hO0 : OK h0) (hX0 : SX h0) (a1 : Int32) (b1 : 0 ≤ a1.toInt ∧ a1.toInt ≤ 11) (a2 : Int32) (a3 : Int32) (pre0 : SKm h0) (pre1 : a1.toInt < fI h0 4) (hQ : ∀ r h', (∃ x : Int32, r = some (.inl x) ∧ -60 ≤ x.toInt ∧ x.toInt ≤ 61) → OK h' → un [80, 81] h0 h' → (SKm h') → Q r h') : uCall Mt (d + 6) 210 [(.inr (.inr (some 69))), (.inl a1), (.inl a2), (.inl a3)] h0 kc ks Q := by
  have l_m60 : ((-60) : Int32).toInt = -60 := by decide
  have l_0 : ((0) : Int32).toInt = 0 := by decide
  have l_1 : ((1) : Int32).toInt = 1 := by decide
  have l_60 : ((60) : Int32).toInt = 60 := by decide
  have l_61 : ((61) : Int32).toInt = 61 := by decide
  have l_120 : ((120) : Int32).toInt = 120 := by decide
  refine uc_ink [some (.inr (.inr (some 69))), some (.inl a1), some (.inl a2), some (.inl a3), none, none] mt_210 (Nat.le_of_ble_eq_true rfl) rfl ?_
  obtain ⟨fs1, hc2⟩ := hO0.mod
  obtain ⟨f3, p4, t5⟩ := mf_4 hO0 hc2
  have t6 := fI_of hc2 p4
  refine ur_push rfl ?_
  refine ur_svIk [some (.inr (.inr (some 69))), some (.inl a1), some (.inl a2), some (.inl a3), some (.inl (-60)), none] rfl rfl ?_
  have L9 : ∀ (m10 : Nat) (x7 : Int32) (u8 : Option aV) (h12 : aH) , OK h12 → un [80, 81] h0 h12 → ((-60 ≤ x7.toInt ∧ x7.toInt ≤ 2147483647)) → (SKm h12) → ((2147483648 - x7.toInt).toNat) < m10 → uRun oX12_seenBy (uCall Mt (d + 5)) Q 4 ([some (.inr (.inr (some 69))), some (.inl a1), some (.inl a2), some (.inl a3), some (.inl x7), u8], [], h12, kc, ks) := by
    intro m10
    induction m10 with
    | zero => intro x7 u8 h12 hO12 hu12 iv14 px13 mm15; omega
    | succ m10 ih11 =>
      intro x7 u8 h12 hO12 hu12 iv14 px13 mm15
      refine ur_ldI rfl rfl ?_
      refine ur_push rfl ?_
      refine ur_if2 rfl (fun c16 => ?_) (fun c16 => ?_)
      · have t17 := lt_to c16
        refine ur_push rfl ?_
        obtain ⟨fs18, hc19⟩ := hO12.mod
        obtain ⟨f20, p21, t22⟩ := mf_4 hO12 hc19
        have t23 := fI_of hc19 p21
        have t24 := fI_keep (k := 4) hO0 hO12 hu12 rfl (by decide)
        exact ur_ret rfl rfl (hQ _ _ ⟨_, rfl, by omega⟩ hO12 hu12 px13)
      · have t25 := lt_no c16
        refine ur_ldA rfl rfl ?_
        refine ur_ldI rfl rfl ?_
        refine ur_ldI rfl rfl ?_
        obtain ⟨fs26, hc27⟩ := hO12.mod
        obtain ⟨f28, p29, t30⟩ := mf_4 hO12 hc27
        have t31 := fI_of hc27 p29
        have t32 := fI_keep (k := 4) hO0 hO12 hu12 rfl (by decide)
        refine ur_inl rfl (rcv_of hc27) (Nat.le_of_ble_eq_true rfl) (Nat.le_of_ble_eq_true rfl) (sd_X12_passOf hO12 (hX0.un hO0 hO12 hu12 (by decide)) _ (by show 0 ≤ a1.toInt ∧ a1.toInt ≤ 11; omega) _ (by show -60 ≤ x7.toInt ∧ x7.toInt ≤ 60; omega) px13 (by omega) (fun w33 h36 hr34 hO36 hv36 hp35 => ?_))
        have hu36 := hv36
        obtain ⟨x37, rfl, f38⟩ := hr34
        show uRun _ (uCall Mt _) _ 18 (_, [(.inl x37)], _, _, _)
        refine ur_svIk [some (.inr (.inr (some 69))), some (.inl a1), some (.inl a2), some (.inl a3), some (.inl x7), some (.inl x37)] rfl rfl ?_
        refine ur_ldI rfl rfl ?_
        refine ur_if1 rfl (fun c39 => ?_) (fun c39 => ?_)
        · have t40 := lt_to c39
          refine ur_incV (fun z => [some (.inr (.inr (some 69))), some (.inl a1), some (.inl a2), some (.inl a3), some (.inl z), some (.inl x37)]) rfl rfl (fun _ => rfl) (fun x41 e42 => ?_)
          have z43 := any_r x7
          have t44 := ti_add e42 (by omega) (by omega)
          refine ur_go rfl ?_
          obtain ⟨fs45, hc46⟩ := hO36.mod
          obtain ⟨f47, p48, t49⟩ := mf_4 hO36 hc46
          have t50 := fI_of hc46 p48
          have z51 := any_r x41
          exact ih11 x41 _ _ hO36 (hu12.tr hu36) (by omega) hp35 (by omega)
        · have t52 := lt_no c39
          refine ur_ldI rfl rfl ?_
          refine ur_ldI rfl rfl ?_
          refine ur_binV rfl (fun x53 e54 => ?_)
          have z55 := any_r a3
          have z56 := any_r x37
          have t57 := fI_keep (k := 4) hO0 hO36 (hu12.tr hu36) rfl (by decide)
          refine ur_inl rfl rfl (Nat.le_of_ble_eq_true rfl) (Nat.le_of_ble_eq_true rfl) (sf_X12_sizeOf _ (fun w58 hr59 => ?_))
          obtain ⟨x60, rfl, t61⟩ := hr59
          show uRun _ (uCall Mt _) _ 32 (_, [(.inl x60)], _, _, _)
          refine ur_push rfl ?_
          refine ur_if2 rfl (fun c62 => ?_) (fun c62 => ?_)
          · have t63 := lt_to c62
            refine ur_incV (fun z => [some (.inr (.inr (some 69))), some (.inl a1), some (.inl a2), some (.inl a3), some (.inl z), some (.inl x37)]) rfl rfl (fun _ => rfl) (fun x64 e65 => ?_)
            have z66 := any_r x7
            have t67 := ti_add e65 (by omega) (by omega)
            refine ur_go rfl ?_
            obtain ⟨fs68, hc69⟩ := hO36.mod
            obtain ⟨f70, p71, t72⟩ := mf_4 hO36 hc69
            have t73 := fI_of hc69 p71
            have z74 := any_r x64
            exact ih11 x64 _ _ hO36 (hu12.tr hu36) (by omega) hp35 (by omega)
          · have t75 := lt_no c62
            refine ur_ldA rfl rfl ?_
            refine ur_ldI rfl rfl ?_
            refine ur_ldI rfl rfl ?_
            refine ur_ldI rfl rfl ?_
            refine ur_ldI rfl rfl ?_
            obtain ⟨fs76, hc77⟩ := hO36.mod
            obtain ⟨f78, p79, t80⟩ := mf_4 hO36 hc77
            have t81 := fI_of hc77 p79
            refine ur_inl rfl (rcv_of hc77) (Nat.le_of_ble_eq_true rfl) (Nat.le_of_ble_eq_true rfl) (sf_X12_canSee hO36 (hX0.un hO0 hO36 (hu12.tr hu36) (by decide)) _ (by show 0 ≤ a1.toInt ∧ a1.toInt ≤ 11; omega) _ _ _ (by omega) (fun w82 h84 hr83 hO84 hv84 => ?_))
            have hu84 : un [80, 81] h36 h84 := hv84.mono (by decide)
            obtain ⟨b85, rfl⟩ := hr83
            show uRun _ (uCall Mt _) _ 46 (_, [(.inl (bi b85))], _, _, _)
            refine ur_eqB rfl (fun c86 => ?_) (fun c86 => ?_)
            · refine ur_incV (fun z => [some (.inr (.inr (some 69))), some (.inl a1), some (.inl a2), some (.inl a3), some (.inl z), some (.inl x37)]) rfl rfl (fun _ => rfl) (fun x87 e88 => ?_)
              have z89 := any_r x7
              have t90 := ti_add e88 (by omega) (by omega)
              refine ur_go rfl ?_
              obtain ⟨fs91, hc92⟩ := hO84.mod
              obtain ⟨f93, p94, t95⟩ := mf_4 hO84 hc92
              have t96 := fI_of hc92 p94
              have z97 := any_r x87
              exact ih11 x87 _ _ hO84 (hu12.tr (hu36.tr hu84)) (by omega) (hp35.un hO36 hO84 hv84 (by decide)) (by omega)
            · refine ur_ldI rfl rfl ?_
              obtain ⟨fs98, hc99⟩ := hO84.mod
              obtain ⟨f100, p101, t102⟩ := mf_4 hO84 hc99
              have t103 := fI_of hc99 p101
              have t104 := fI_keep (k := 4) hO0 hO84 (hu12.tr (hu36.tr hu84)) rfl (by decide)
              exact ur_ret rfl rfl (hQ _ _ ⟨_, rfl, by omega⟩ hO84 (hu12.tr (hu36.tr hu84)) (hp35.un hO36 hO84 hv84 (by decide)))
  exact L9 _ (-60) (none) _ hO0 un.rf (by omega) pre0 (Nat.lt_succ_self _)

set_option maxRecDepth 20000 in
set_option maxHeartbeats 4000000 in
theorem sd_X12_seen {d kc ks : Nat} {h0 : aH} {Q : Option aV → aH → Prop} (hO0 : OK h0) (hX0 : SX h0) (a1 : Int32) (a2 : Int32) (a3 : Int32) (pre0 : SKm h0) (hQ : ∀ r h', (∃ x, r = some (.inl x)) → OK h' → un [80, 81] h0 h' → (SKm h') → Q r h') : uCall Mt (d + 7) 211 [(.inr (.inr (some 69))), (.inl a1), (.inl a2), (.inl a3)] h0 kc ks Q := by
  have l_m2000000000 : ((-2000000000) : Int32).toInt = -2000000000 := by decide
  have l_0 : ((0) : Int32).toInt = 0 := by decide
  have l_8 : ((8) : Int32).toInt = 8 := by decide
  have l_60 : ((60) : Int32).toInt = 60 := by decide
  have l_999999 : ((999999) : Int32).toInt = 999999 := by decide
  refine uc_ink [some (.inr (.inr (some 69))), some (.inl a1), some (.inl a2), some (.inl a3), none] mt_211 (Nat.le_of_ble_eq_true rfl) rfl ?_
  obtain ⟨fs1, hc2⟩ := hO0.mod
  obtain ⟨f3, p4, t5⟩ := mf_4 hO0 hc2
  have t6 := fI_of hc2 p4
  refine ur_ldA rfl rfl ?_
  refine ur_ldI rfl rfl ?_
  refine ur_inl rfl (rcv_of hc2) (Nat.le_of_ble_eq_true rfl) (Nat.le_of_ble_eq_true rfl) (sg_isComet hO0 _ (fun w7 hr8 => ?_))
  obtain ⟨b9, rfl, t10⟩ := hr8
  show uRun _ (uCall Mt _) _ 5 (_, [(.inl (bi b9))], _, _, _)
  refine ur_eqB rfl (fun c11 => ?_) (fun c11 => ?_)
  · clear t10
    refine ur_push rfl ?_
    exact ur_ret rfl rfl (hQ _ _ ⟨_, rfl⟩ hO0 un.rf pre0)
  · have t12 := t10 c11
    clear t10
    refine ur_ldI rfl rfl ?_
    refine ur_callv rfl rfl (Nat.le_of_ble_eq_true rfl) (Nat.le_of_ble_eq_true rfl) rfl (sq_isPpl _ _) ?_
    refine ur_eqB rfl (fun c15 => ?_) (fun c15 => ?_)
    · have t16 := wi_noL c15 l_0 l_8
      refine ur_push rfl ?_
      exact ur_ret rfl rfl (hQ _ _ ⟨_, rfl⟩ hO0 un.rf pre0)
    · have t17 := wi_toL c15 l_0 l_8
      refine ur_ldI rfl rfl ?_
      refine ur_callv rfl rfl (Nat.le_of_ble_eq_true rfl) (Nat.le_of_ble_eq_true rfl) rfl (sq_isDay _ _) ?_
      refine ur_neB rfl (fun c20 => ?_) (fun c20 => ?_)
      · have t21 := wi_toL c20 l_0 l_999999
        refine ur_ldA rfl rfl ?_
        refine ur_ldI rfl rfl ?_
        refine ur_ldI rfl rfl ?_
        refine ur_ldI rfl rfl ?_
        refine ur_inl rfl (rcv_of hc2) (Nat.le_of_ble_eq_true rfl) (Nat.le_of_ble_eq_true rfl) (sd_X12_seenBy hO0 hX0 _ (by show 0 ≤ a1.toInt ∧ a1.toInt ≤ 11; omega) _ _ pre0 (by omega) (fun w22 h25 hr23 hO25 hv25 hp24 => ?_))
        have hu25 := hv25
        obtain ⟨x26, rfl, t27⟩ := hr23
        show uRun _ (uCall Mt _) _ 32 (_, [(.inl x26)], _, _, _)
        refine ur_svIk [some (.inr (.inr (some 69))), some (.inl a1), some (.inl a2), some (.inl a3), some (.inl x26)] rfl rfl ?_
        refine ur_ldI rfl rfl ?_
        refine ur_push rfl ?_
        refine ur_if2 rfl (fun c28 => ?_) (fun c28 => ?_)
        · have t29 := le_to c28
          refine ur_ldI rfl rfl ?_
          obtain ⟨fs30, hc31⟩ := hO25.mod
          obtain ⟨f32, p33, t34⟩ := mf_4 hO25 hc31
          have t35 := fI_of hc31 p33
          have t36 := fI_keep (k := 4) hO0 hO25 hu25 rfl (by decide)
          exact ur_ret rfl rfl (hQ _ _ ⟨_, rfl⟩ hO25 hu25 hp24)
        · have t37 := le_no c28
          refine ur_push rfl ?_
          refine ur_go rfl ?_
          obtain ⟨fs38, hc39⟩ := hO25.mod
          obtain ⟨f40, p41, t42⟩ := mf_4 hO25 hc39
          have t43 := fI_of hc39 p41
          have t44 := fI_keep (k := 4) hO0 hO25 hu25 rfl (by decide)
          exact ur_ret rfl rfl (hQ _ _ ⟨_, rfl⟩ hO25 hu25 hp24)
      · have t45 := wi_noL c20 l_0 l_999999
        refine ur_push rfl ?_
        exact ur_ret rfl rfl (hQ _ _ ⟨_, rfl⟩ hO0 un.rf pre0)

set_option maxRecDepth 20000 in
set_option maxHeartbeats 4000000 in
theorem sd_X12_fits {d kc ks : Nat} {h0 : aH} {Q : Option aV → aH → Prop} (hO0 : OK h0) (hX0 : SX h0) (a1 : Int32) (a2 : Int32) (a3 : Int32) (pre0 : SKm h0) (hQ : ∀ r h', (∃ x, r = some (.inl x)) → OK h' → un [80, 81] h0 h' → (SKm h') → Q r h') : uCall Mt (d + 8) 252 [(.inr (.inr (some 69))), (.inl a1), (.inl a2), (.inl a3)] h0 kc ks Q := by
  have l_m60 : ((-60) : Int32).toInt = -60 := by decide
  have l_m2 : ((-2) : Int32).toInt = -2 := by decide
  have l_m1 : ((-1) : Int32).toInt = -1 := by decide
  have l_0 : ((0) : Int32).toInt = 0 := by decide
  have l_60 : ((60) : Int32).toInt = 60 := by decide
  refine uc_ink [some (.inr (.inr (some 69))), some (.inl a1), some (.inl a2), some (.inl a3), none, none] mt_252 (Nat.le_of_ble_eq_true rfl) rfl ?_
  obtain ⟨fs1, hc2⟩ := hO0.mod
  obtain ⟨f3, p4, t5⟩ := mf_4 hO0 hc2
  have t6 := fI_of hc2 p4
  obtain ⟨f7, p8, t9⟩ := mf_38 hO0 hc2
  have t10 := fI_of hc2 p8
  refine ur_ldA rfl rfl ?_
  refine ur_ldI rfl rfl ?_
  refine ur_inl rfl (rcv_of hc2) (Nat.le_of_ble_eq_true rfl) (Nat.le_of_ble_eq_true rfl) (sd_X12_isWord hO0 _ (fun w11 hr12 => ?_))
  obtain ⟨b13, rfl, t14, t15⟩ := hr12
  show uRun _ (uCall Mt _) _ 5 (_, [(.inl (bi b13))], _, _, _)
  refine ur_eqB rfl (fun c16 => ?_) (fun c16 => ?_)
  · have t17 := t15 c16
    clear t14 t15
    refine ur_push rfl ?_
    exact ur_ret rfl rfl (hQ _ _ ⟨_, rfl⟩ hO0 un.rf pre0)
  · have t18 := t14 c16
    clear t14 t15
    refine ur_ldA rfl rfl ?_
    refine ur_ldI rfl rfl ?_
    refine ur_inl rfl (rcv_of hc2) (Nat.le_of_ble_eq_true rfl) (Nat.le_of_ble_eq_true rfl) (sg_isComet hO0 _ (fun w19 hr20 => ?_))
    obtain ⟨b21, rfl, t22⟩ := hr20
    show uRun _ (uCall Mt _) _ 13 (_, [(.inl (bi b21))], _, _, _)
    refine ur_eqB rfl (fun c23 => ?_) (fun c23 => ?_)
    · clear t22
      refine ur_push rfl ?_
      exact ur_ret rfl rfl (hQ _ _ ⟨_, rfl⟩ hO0 un.rf pre0)
    · have t24 := t22 c23
      clear t22
      refine ur_ldI rfl rfl ?_
      refine ur_callv rfl rfl (Nat.le_of_ble_eq_true rfl) (Nat.le_of_ble_eq_true rfl) rfl (sq_isRet _ _) ?_
      refine ur_neB rfl (fun c27 => ?_) (fun c27 => ?_)
      · have t28 := wi_toL c27 l_m60 l_60
        refine ur_ldA rfl rfl ?_
        refine ur_ldI rfl rfl ?_
        refine ur_ldI rfl rfl ?_
        refine ur_inl rfl (rcv_of hc2) (Nat.le_of_ble_eq_true rfl) (Nat.le_of_ble_eq_true rfl) (sd_X12_passOf hO0 hX0 _ (by show 0 ≤ a2.toInt ∧ a2.toInt ≤ 11; omega) _ (by show -60 ≤ a3.toInt ∧ a3.toInt ≤ 60; omega) pre0 (by omega) (fun w29 h32 hr30 hO32 hv32 hp31 => ?_))
        have hu32 := hv32
        obtain ⟨x33, rfl, f34⟩ := hr30
        show uRun _ (uCall Mt _) _ 31 (_, [(.inl x33)], _, _, _)
        refine ur_svIk [some (.inr (.inr (some 69))), some (.inl a1), some (.inl a2), some (.inl a3), some (.inl x33), none] rfl rfl ?_
        refine ur_ldI rfl rfl ?_
        refine ur_if1 rfl (fun c35 => ?_) (fun c35 => ?_)
        · have t36 := le_to c35
          refine ur_ldA rfl rfl ?_
          refine ur_ldI rfl rfl ?_
          refine ur_ldI rfl rfl ?_
          refine ur_ldI rfl rfl ?_
          refine ur_push rfl ?_
          refine ur_push rfl ?_
          obtain ⟨fs37, hc38⟩ := hO32.mod
          obtain ⟨f39, p40, t41⟩ := mf_4 hO32 hc38
          have t42 := fI_of hc38 p40
          obtain ⟨f43, p44, t45⟩ := mf_38 hO32 hc38
          have t46 := fI_of hc38 p44
          have t47 := fI_keep (k := 4) hO0 hO32 hu32 rfl (by decide)
          have t48 := fI_keep (k := 38) hO0 hO32 hu32 rfl (by decide)
          refine ur_inl rfl (rcv_of hc38) (Nat.le_of_ble_eq_true rfl) (Nat.le_of_ble_eq_true rfl) (sf_X12_fitDay hO32 (hX0.un hO0 hO32 hu32 (by decide)) _ (by show 0 ≤ a1.toInt ∧ a1.toInt ≤ 149; omega) _ (by show 0 ≤ a2.toInt ∧ a2.toInt ≤ 11; omega) _ (by show -20000 ≤ x33.toInt ∧ x33.toInt ≤ 1020000; omega) _ (by show -400 ≤ (0 : Int32).toInt ∧ (0 : Int32).toInt ≤ 400; omega) _ (by show 0 ≤ (0 : Int32).toInt ∧ (0 : Int32).toInt ≤ 1020000; omega) (by omega) (by omega) (fun w49 h51 hr50 hO51 hv51 => ?_))
          have hu51 : un [80, 81] h32 h51 := hv51.mono (by decide)
          obtain ⟨x52, rfl, t53⟩ := hr50
          show uRun _ (uCall Mt _) _ 52 (_, [(.inl x52)], _, _, _)
          refine ur_svIk [some (.inr (.inr (some 69))), some (.inl a1), some (.inl a2), some (.inl a3), some (.inl x33), some (.inl x52)] rfl rfl ?_
          refine ur_ldI rfl rfl ?_
          refine ur_if1 rfl (fun c54 => ?_) (fun c54 => ?_)
          · have t55 := le_to c54
            refine ur_ldI rfl rfl ?_
            obtain ⟨fs56, hc57⟩ := hO51.mod
            obtain ⟨f58, p59, t60⟩ := mf_4 hO51 hc57
            have t61 := fI_of hc57 p59
            obtain ⟨f62, p63, t64⟩ := mf_38 hO51 hc57
            have t65 := fI_of hc57 p63
            have t66 := fI_keep (k := 4) hO0 hO51 (hu32.tr hu51) rfl (by decide)
            have t67 := fI_keep (k := 38) hO0 hO51 (hu32.tr hu51) rfl (by decide)
            exact ur_ret rfl rfl (hQ _ _ ⟨_, rfl⟩ hO51 (hu32.tr hu51) (hp31.un hO32 hO51 hv51 (by decide)))
          · have t68 := le_no c54
            refine ur_push rfl ?_
            refine ur_go rfl ?_
            obtain ⟨fs69, hc70⟩ := hO51.mod
            obtain ⟨f71, p72, t73⟩ := mf_4 hO51 hc70
            have t74 := fI_of hc70 p72
            obtain ⟨f75, p76, t77⟩ := mf_38 hO51 hc70
            have t78 := fI_of hc70 p76
            have t79 := fI_keep (k := 4) hO0 hO51 (hu32.tr hu51) rfl (by decide)
            have t80 := fI_keep (k := 38) hO0 hO51 (hu32.tr hu51) rfl (by decide)
            exact ur_ret rfl rfl (hQ _ _ ⟨_, rfl⟩ hO51 (hu32.tr hu51) (hp31.un hO32 hO51 hv51 (by decide)))
        · have t81 := le_no c35
          refine ur_push rfl ?_
          refine ur_go rfl ?_
          refine ur_svIk [some (.inr (.inr (some 69))), some (.inl a1), some (.inl a2), some (.inl a3), some (.inl x33), some (.inl (-1))] rfl rfl ?_
          refine ur_ldI rfl rfl ?_
          refine ur_if1f rfl (by decide) ?_
          refine ur_push rfl ?_
          refine ur_go rfl ?_
          obtain ⟨fs82, hc83⟩ := hO32.mod
          obtain ⟨f84, p85, t86⟩ := mf_4 hO32 hc83
          have t87 := fI_of hc83 p85
          obtain ⟨f88, p89, t90⟩ := mf_38 hO32 hc83
          have t91 := fI_of hc83 p89
          have t92 := fI_keep (k := 4) hO0 hO32 hu32 rfl (by decide)
          have t93 := fI_keep (k := 38) hO0 hO32 hu32 rfl (by decide)
          exact ur_ret rfl rfl (hQ _ _ ⟨_, rfl⟩ hO32 hu32 hp31)
      · have t94 := wi_noL c27 l_m60 l_60
        refine ur_push rfl ?_
        exact ur_ret rfl rfl (hQ _ _ ⟨_, rfl⟩ hO0 un.rf pre0)

set_option maxRecDepth 20000 in
set_option maxHeartbeats 4000000 in
theorem sd_X12_perhaps {d kc ks : Nat} {h0 : aH} {Q : Option aV → aH → Prop} (hO0 : OK h0) (hX0 : SX h0) (a1 : Int32) (a2 : Int32) (a3 : Int32) (pre0 : SKm h0) (hQ : ∀ r h', (∃ x, r = some (.inl x)) → OK h' → un [80, 81] h0 h' → (SKm h') → Q r h') : uCall Mt (d + 8) 253 [(.inr (.inr (some 69))), (.inl a1), (.inl a2), (.inl a3)] h0 kc ks Q := by
  have l_m2000000000 : ((-2000000000) : Int32).toInt = -2000000000 := by decide
  have l_m60 : ((-60) : Int32).toInt = -60 := by decide
  have l_m2 : ((-2) : Int32).toInt = -2 := by decide
  have l_0 : ((0) : Int32).toInt = 0 := by decide
  have l_1 : ((1) : Int32).toInt = 1 := by decide
  have l_20 : ((20) : Int32).toInt = 20 := by decide
  have l_60 : ((60) : Int32).toInt = 60 := by decide
  refine uc_ink [some (.inr (.inr (some 69))), some (.inl a1), some (.inl a2), some (.inl a3), none, none, none, none, none] mt_253 (Nat.le_of_ble_eq_true rfl) rfl ?_
  obtain ⟨fs1, hc2⟩ := hO0.mod
  obtain ⟨f3, p4, t5⟩ := mf_4 hO0 hc2
  have t6 := fI_of hc2 p4
  obtain ⟨f7, p8, t9⟩ := mf_38 hO0 hc2
  have t10 := fI_of hc2 p8
  refine ur_ldA rfl rfl ?_
  refine ur_ldI rfl rfl ?_
  refine ur_inl rfl (rcv_of hc2) (Nat.le_of_ble_eq_true rfl) (Nat.le_of_ble_eq_true rfl) (sd_X12_isWord hO0 _ (fun w11 hr12 => ?_))
  obtain ⟨b13, rfl, t14, t15⟩ := hr12
  show uRun _ (uCall Mt _) _ 5 (_, [(.inl (bi b13))], _, _, _)
  refine ur_eqB rfl (fun c16 => ?_) (fun c16 => ?_)
  · have t17 := t15 c16
    clear t14 t15
    refine ur_push rfl ?_
    exact ur_ret rfl rfl (hQ _ _ ⟨_, rfl⟩ hO0 un.rf pre0)
  · have t18 := t14 c16
    clear t14 t15
    refine ur_ldA rfl rfl ?_
    refine ur_ldI rfl rfl ?_
    refine ur_inl rfl (rcv_of hc2) (Nat.le_of_ble_eq_true rfl) (Nat.le_of_ble_eq_true rfl) (sg_isComet hO0 _ (fun w19 hr20 => ?_))
    obtain ⟨b21, rfl, t22⟩ := hr20
    show uRun _ (uCall Mt _) _ 13 (_, [(.inl (bi b21))], _, _, _)
    refine ur_eqB rfl (fun c23 => ?_) (fun c23 => ?_)
    · clear t22
      refine ur_push rfl ?_
      exact ur_ret rfl rfl (hQ _ _ ⟨_, rfl⟩ hO0 un.rf pre0)
    · have t24 := t22 c23
      clear t22
      refine ur_ldI rfl rfl ?_
      refine ur_callv rfl rfl (Nat.le_of_ble_eq_true rfl) (Nat.le_of_ble_eq_true rfl) rfl (sq_isRet _ _) ?_
      refine ur_neB rfl (fun c27 => ?_) (fun c27 => ?_)
      · have t28 := wi_toL c27 l_m60 l_60
        refine ur_ldA rfl rfl ?_
        refine ur_ldI rfl rfl ?_
        refine ur_ldI rfl rfl ?_
        refine ur_inl rfl (rcv_of hc2) (Nat.le_of_ble_eq_true rfl) (Nat.le_of_ble_eq_true rfl) (sd_X12_passOf hO0 hX0 _ (by show 0 ≤ a2.toInt ∧ a2.toInt ≤ 11; omega) _ (by show -60 ≤ a3.toInt ∧ a3.toInt ≤ 60; omega) pre0 (by omega) (fun w29 h32 hr30 hO32 hv32 hp31 => ?_))
        have hu32 := hv32
        obtain ⟨x33, rfl, f34⟩ := hr30
        show uRun _ (uCall Mt _) _ 32 (_, [(.inl x33)], _, _, _)
        refine ur_svIk [some (.inr (.inr (some 69))), some (.inl a1), some (.inl a2), some (.inl a3), some (.inl x33), none, none, none, none] rfl rfl ?_
        refine ur_ldI rfl rfl ?_
        refine ur_if1 rfl (fun c35 => ?_) (fun c35 => ?_)
        · have t36 := le_to c35
          refine ur_ldA rfl rfl ?_
          refine ur_ldI rfl rfl ?_
          obtain ⟨fs37, hc38⟩ := hO32.mod
          have t39 := fI_keep (k := 4) hO0 hO32 hu32 rfl (by decide)
          have t40 := fI_keep (k := 38) hO0 hO32 hu32 rfl (by decide)
          refine ur_inl rfl (rcv_of hc38) (Nat.le_of_ble_eq_true rfl) (Nat.le_of_ble_eq_true rfl) (sf_X12_wideOf hO32 _ (by show -60 ≤ a3.toInt ∧ a3.toInt ≤ 60; omega) (fun w41 hr42 => ?_))
          obtain ⟨x43, rfl, t44⟩ := hr42
          show uRun _ (uCall Mt _) _ 47 (_, [(.inl x43)], _, _, _)
          refine ur_svIk [some (.inr (.inr (some 69))), some (.inl a1), some (.inl a2), some (.inl a3), some (.inl x33), some (.inl x43), none, none, none] rfl rfl ?_
          refine ur_push rfl ?_
          refine ur_ldI rfl rfl ?_
          refine ur_push rfl ?_
          refine ur_divV rfl (by decide) (fun x45 e46 => ?_)
          have z47 := any_r x43
          have t48 := ti_div e46 l_20 (by decide) (by omega)
          refine ur_binV rfl (fun x49 e50 => ?_)
          have z51 := any_r x45
          have t52 := ti_add e50 (by omega) (by omega)
          refine ur_svIk [some (.inr (.inr (some 69))), some (.inl a1), some (.inl a2), some (.inl a3), some (.inl x33), some (.inl x43), some (.inl x49), none, none] rfl rfl ?_
          refine ur_push rfl ?_
          refine ur_svIk [some (.inr (.inr (some 69))), some (.inl a1), some (.inl a2), some (.inl a3), some (.inl x33), some (.inl x43), some (.inl x49), some (.inl (-2000000000)), none] rfl rfl ?_
          refine ur_ldI rfl rfl ?_
          refine ur_unV rfl (fun x53 e54 => ?_)
          have t55 := ti_neg e54 (by omega)
          refine ur_svIk [some (.inr (.inr (some 69))), some (.inl a1), some (.inl a2), some (.inl a3), some (.inl x33), some (.inl x43), some (.inl x49), some (.inl (-2000000000)), some (.inl x53)] rfl rfl ?_
          obtain ⟨f61, p62, t63⟩ := mf_4 hO32 hc38
          have t64 := fI_of hc38 p62
          obtain ⟨f65, p66, t67⟩ := mf_38 hO32 hc38
          have t68 := fI_of hc38 p66
          have L58 : ∀ (m59 : Nat) (x56 : Int32) (x57 : Int32) (h69 : aH) , OK h69 → un [80, 81] h32 h69 → ((-14400 ≤ x57.toInt ∧ x57.toInt ≤ 15121)) → (SKm h69) → ((20000 - x57.toInt).toNat) < m59 → uRun oX12_perhaps (uCall Mt (d + 7)) Q 67 ([some (.inr (.inr (some 69))), some (.inl a1), some (.inl a2), some (.inl a3), some (.inl x33), some (.inl x43), some (.inl x49), some (.inl x56), some (.inl x57)], [], h69, kc, ks) := by
            intro m59
            induction m59 with
            | zero => intro x56 x57 h69 hO69 hu69 iv71 px70 mm72; omega
            | succ m59 ih60 =>
              intro x56 x57 h69 hO69 hu69 iv71 px70 mm72
              refine ur_ldI rfl rfl ?_
              refine ur_ldI rfl rfl ?_
              have z73 := any_r x57
              refine ur_if2 rfl (fun c74 => ?_) (fun c74 => ?_)
              · have t75 := lt_to c74
                refine ur_ldI rfl rfl ?_
                refine ur_push rfl ?_
                refine ur_if2 rfl (fun c76 => ?_) (fun c76 => ?_)
                · have t77 := ne_to c76
                  refine ur_ldI rfl rfl ?_
                  obtain ⟨fs78, hc79⟩ := hO69.mod
                  obtain ⟨f80, p81, t82⟩ := mf_4 hO69 hc79
                  have t83 := fI_of hc79 p81
                  obtain ⟨f84, p85, t86⟩ := mf_38 hO69 hc79
                  have t87 := fI_of hc79 p85
                  have t88 := fI_keep (k := 4) hO0 hO69 (hu32.tr hu69) rfl (by decide)
                  have t89 := fI_keep (k := 38) hO0 hO69 (hu32.tr hu69) rfl (by decide)
                  exact ur_ret rfl rfl (hQ _ _ ⟨_, rfl⟩ hO69 (hu32.tr hu69) px70)
                · have t90 := ne_no c76
                  refine ur_push rfl ?_
                  refine ur_go rfl ?_
                  obtain ⟨fs91, hc92⟩ := hO69.mod
                  obtain ⟨f93, p94, t95⟩ := mf_4 hO69 hc92
                  have t96 := fI_of hc92 p94
                  obtain ⟨f97, p98, t99⟩ := mf_38 hO69 hc92
                  have t100 := fI_of hc92 p98
                  have t101 := fI_keep (k := 4) hO0 hO69 (hu32.tr hu69) rfl (by decide)
                  have t102 := fI_keep (k := 38) hO0 hO69 (hu32.tr hu69) rfl (by decide)
                  exact ur_ret rfl rfl (hQ _ _ ⟨_, rfl⟩ hO69 (hu32.tr hu69) px70)
              · have t103 := lt_no c74
                refine ur_ldI rfl rfl ?_
                refine ur_push rfl ?_
                refine ur_if2 rfl (fun c104 => ?_) (fun c104 => ?_)
                · have t105 := eq_to c104
                  refine ur_ldA rfl rfl ?_
                  refine ur_ldI rfl rfl ?_
                  refine ur_ldI rfl rfl ?_
                  refine ur_ldI rfl rfl ?_
                  refine ur_ldI rfl rfl ?_
                  refine ur_binV rfl (fun x106 e107 => ?_)
                  have z108 := any_r x33
                  have t109 := ti_add e107 (by omega) (by omega)
                  refine ur_push rfl ?_
                  refine ur_push rfl ?_
                  obtain ⟨fs110, hc111⟩ := hO69.mod
                  obtain ⟨f112, p113, t114⟩ := mf_4 hO69 hc111
                  have t115 := fI_of hc111 p113
                  obtain ⟨f116, p117, t118⟩ := mf_38 hO69 hc111
                  have t119 := fI_of hc111 p117
                  have t120 := fI_keep (k := 4) hO0 hO69 (hu32.tr hu69) rfl (by decide)
                  have t121 := fI_keep (k := 38) hO0 hO69 (hu32.tr hu69) rfl (by decide)
                  refine ur_inl rfl (rcv_of hc111) (Nat.le_of_ble_eq_true rfl) (Nat.le_of_ble_eq_true rfl) (sf_X12_fitDay hO69 (hX0.un hO0 hO69 (hu32.tr hu69) (by decide)) _ (by show 0 ≤ a1.toInt ∧ a1.toInt ≤ 149; omega) _ (by show 0 ≤ a2.toInt ∧ a2.toInt ≤ 11; omega) _ (by show -20000 ≤ x106.toInt ∧ x106.toInt ≤ 1020000; omega) _ (by show -400 ≤ (0 : Int32).toInt ∧ (0 : Int32).toInt ≤ 400; omega) _ (by show 0 ≤ (0 : Int32).toInt ∧ (0 : Int32).toInt ≤ 1020000; omega) (by omega) (by omega) (fun w122 h124 hr123 hO124 hv124 => ?_))
                  have hu124 : un [80, 81] h69 h124 := hv124.mono (by decide)
                  obtain ⟨x125, rfl, t126⟩ := hr123
                  show uRun _ (uCall Mt _) _ 110 (_, [(.inl x125)], _, _, _)
                  refine ur_if1 rfl (fun c127 => ?_) (fun c127 => ?_)
                  · have t128 := lt_to c127
                    refine ur_ldI rfl rfl ?_
                    refine ur_ldI rfl rfl ?_
                    refine ur_binV rfl (fun x129 e130 => ?_)
                    have z131 := any_r x49
                    have t132 := ti_add e130 (by omega) (by omega)
                    refine ur_svIk [some (.inr (.inr (some 69))), some (.inl a1), some (.inl a2), some (.inl a3), some (.inl x33), some (.inl x43), some (.inl x49), some (.inl x56), some (.inl x129)] rfl rfl ?_
                    refine ur_go rfl ?_
                    obtain ⟨fs133, hc134⟩ := hO124.mod
                    obtain ⟨f135, p136, t137⟩ := mf_4 hO124 hc134
                    have t138 := fI_of hc134 p136
                    obtain ⟨f139, p140, t141⟩ := mf_38 hO124 hc134
                    have t142 := fI_of hc134 p140
                    have z143 := any_r x129
                    exact ih60 x56 x129 _ hO124 (hu69.tr hu124) (by omega) (px70.un hO69 hO124 hv124 (by decide)) (by omega)
                  · have t144 := lt_no c127
                    refine ur_ldI rfl rfl ?_
                    refine ur_svIk [some (.inr (.inr (some 69))), some (.inl a1), some (.inl a2), some (.inl a3), some (.inl x33), some (.inl x43), some (.inl x49), some (.inl x57), some (.inl x57)] rfl rfl ?_
                    refine ur_ldI rfl rfl ?_
                    refine ur_ldI rfl rfl ?_
                    refine ur_binV rfl (fun x145 e146 => ?_)
                    have z147 := any_r x49
                    have t148 := ti_add e146 (by omega) (by omega)
                    refine ur_svIk [some (.inr (.inr (some 69))), some (.inl a1), some (.inl a2), some (.inl a3), some (.inl x33), some (.inl x43), some (.inl x49), some (.inl x57), some (.inl x145)] rfl rfl ?_
                    refine ur_go rfl ?_
                    obtain ⟨fs149, hc150⟩ := hO124.mod
                    obtain ⟨f151, p152, t153⟩ := mf_4 hO124 hc150
                    have t154 := fI_of hc150 p152
                    obtain ⟨f155, p156, t157⟩ := mf_38 hO124 hc150
                    have t158 := fI_of hc150 p156
                    have z159 := any_r x145
                    exact ih60 x57 x145 _ hO124 (hu69.tr hu124) (by omega) (px70.un hO69 hO124 hv124 (by decide)) (by omega)
                · have t160 := eq_no c104
                  refine ur_ldI rfl rfl ?_
                  have t161 := fI_keep (k := 4) hO0 hO69 (hu32.tr hu69) rfl (by decide)
                  have t162 := fI_keep (k := 38) hO0 hO69 (hu32.tr hu69) rfl (by decide)
                  refine ur_inl rfl rfl (Nat.le_of_ble_eq_true rfl) (Nat.le_of_ble_eq_true rfl) (sf_X12_sizeOf _ (fun w163 hr164 => ?_))
                  obtain ⟨x165, rfl, t166⟩ := hr164
                  show uRun _ (uCall Mt _) _ 86 (_, [(.inl x165)], _, _, _)
                  refine ur_ldI rfl rfl ?_
                  refine ur_inl rfl rfl (Nat.le_of_ble_eq_true rfl) (Nat.le_of_ble_eq_true rfl) (sf_X12_sizeOf _ (fun w167 hr168 => ?_))
                  obtain ⟨x169, rfl, t170⟩ := hr168
                  show uRun _ (uCall Mt _) _ 91 (_, [(.inl x169), (.inl x165)], _, _, _)
                  have z171 := any_r x165
                  have z172 := any_r x169
                  refine ur_if2 rfl (fun c173 => ?_) (fun c173 => ?_)
                  · have t174 := lt_to c173
                    refine ur_ldA rfl rfl ?_
                    refine ur_ldI rfl rfl ?_
                    refine ur_ldI rfl rfl ?_
                    refine ur_ldI rfl rfl ?_
                    refine ur_ldI rfl rfl ?_
                    refine ur_binV rfl (fun x175 e176 => ?_)
                    have z177 := any_r x33
                    have t178 := ti_add e176 (by omega) (by omega)
                    refine ur_push rfl ?_
                    refine ur_push rfl ?_
                    obtain ⟨fs179, hc180⟩ := hO69.mod
                    obtain ⟨f181, p182, t183⟩ := mf_4 hO69 hc180
                    have t184 := fI_of hc180 p182
                    obtain ⟨f185, p186, t187⟩ := mf_38 hO69 hc180
                    have t188 := fI_of hc180 p186
                    refine ur_inl rfl (rcv_of hc180) (Nat.le_of_ble_eq_true rfl) (Nat.le_of_ble_eq_true rfl) (sf_X12_fitDay hO69 (hX0.un hO0 hO69 (hu32.tr hu69) (by decide)) _ (by show 0 ≤ a1.toInt ∧ a1.toInt ≤ 149; omega) _ (by show 0 ≤ a2.toInt ∧ a2.toInt ≤ 11; omega) _ (by show -20000 ≤ x175.toInt ∧ x175.toInt ≤ 1020000; omega) _ (by show -400 ≤ (0 : Int32).toInt ∧ (0 : Int32).toInt ≤ 400; omega) _ (by show 0 ≤ (0 : Int32).toInt ∧ (0 : Int32).toInt ≤ 1020000; omega) (by omega) (by omega) (fun w189 h191 hr190 hO191 hv191 => ?_))
                    have hu191 : un [80, 81] h69 h191 := hv191.mono (by decide)
                    obtain ⟨x192, rfl, t193⟩ := hr190
                    show uRun _ (uCall Mt _) _ 110 (_, [(.inl x192)], _, _, _)
                    refine ur_if1 rfl (fun c194 => ?_) (fun c194 => ?_)
                    · have t195 := lt_to c194
                      refine ur_ldI rfl rfl ?_
                      refine ur_ldI rfl rfl ?_
                      refine ur_binV rfl (fun x196 e197 => ?_)
                      have z198 := any_r x49
                      have t199 := ti_add e197 (by omega) (by omega)
                      refine ur_svIk [some (.inr (.inr (some 69))), some (.inl a1), some (.inl a2), some (.inl a3), some (.inl x33), some (.inl x43), some (.inl x49), some (.inl x56), some (.inl x196)] rfl rfl ?_
                      refine ur_go rfl ?_
                      obtain ⟨fs200, hc201⟩ := hO191.mod
                      obtain ⟨f202, p203, t204⟩ := mf_4 hO191 hc201
                      have t205 := fI_of hc201 p203
                      obtain ⟨f206, p207, t208⟩ := mf_38 hO191 hc201
                      have t209 := fI_of hc201 p207
                      have z210 := any_r x196
                      exact ih60 x56 x196 _ hO191 (hu69.tr hu191) (by omega) (px70.un hO69 hO191 hv191 (by decide)) (by omega)
                    · have t211 := lt_no c194
                      refine ur_ldI rfl rfl ?_
                      refine ur_svIk [some (.inr (.inr (some 69))), some (.inl a1), some (.inl a2), some (.inl a3), some (.inl x33), some (.inl x43), some (.inl x49), some (.inl x57), some (.inl x57)] rfl rfl ?_
                      refine ur_ldI rfl rfl ?_
                      refine ur_ldI rfl rfl ?_
                      refine ur_binV rfl (fun x212 e213 => ?_)
                      have z214 := any_r x49
                      have t215 := ti_add e213 (by omega) (by omega)
                      refine ur_svIk [some (.inr (.inr (some 69))), some (.inl a1), some (.inl a2), some (.inl a3), some (.inl x33), some (.inl x43), some (.inl x49), some (.inl x57), some (.inl x212)] rfl rfl ?_
                      refine ur_go rfl ?_
                      obtain ⟨fs216, hc217⟩ := hO191.mod
                      obtain ⟨f218, p219, t220⟩ := mf_4 hO191 hc217
                      have t221 := fI_of hc217 p219
                      obtain ⟨f222, p223, t224⟩ := mf_38 hO191 hc217
                      have t225 := fI_of hc217 p223
                      have z226 := any_r x212
                      exact ih60 x57 x212 _ hO191 (hu69.tr hu191) (by omega) (px70.un hO69 hO191 hv191 (by decide)) (by omega)
                  · have t227 := lt_no c173
                    refine ur_go rfl ?_
                    refine ur_ldI rfl rfl ?_
                    refine ur_ldI rfl rfl ?_
                    refine ur_binV rfl (fun x228 e229 => ?_)
                    have z230 := any_r x49
                    have t231 := ti_add e229 (by omega) (by omega)
                    refine ur_svIk [some (.inr (.inr (some 69))), some (.inl a1), some (.inl a2), some (.inl a3), some (.inl x33), some (.inl x43), some (.inl x49), some (.inl x56), some (.inl x228)] rfl rfl ?_
                    refine ur_go rfl ?_
                    obtain ⟨fs232, hc233⟩ := hO69.mod
                    obtain ⟨f234, p235, t236⟩ := mf_4 hO69 hc233
                    have t237 := fI_of hc233 p235
                    obtain ⟨f238, p239, t240⟩ := mf_38 hO69 hc233
                    have t241 := fI_of hc233 p239
                    have z242 := any_r x228
                    exact ih60 x56 x228 _ hO69 hu69 (by omega) px70 (by omega)
          have z243 := any_r x53
          exact L58 _ (-2000000000) x53 _ hO32 un.rf (by omega) hp31 (Nat.lt_succ_self _)
        · have t244 := le_no c35
          refine ur_push rfl ?_
          obtain ⟨fs245, hc246⟩ := hO32.mod
          obtain ⟨f247, p248, t249⟩ := mf_4 hO32 hc246
          have t250 := fI_of hc246 p248
          obtain ⟨f251, p252, t253⟩ := mf_38 hO32 hc246
          have t254 := fI_of hc246 p252
          have t255 := fI_keep (k := 4) hO0 hO32 hu32 rfl (by decide)
          have t256 := fI_keep (k := 38) hO0 hO32 hu32 rfl (by decide)
          exact ur_ret rfl rfl (hQ _ _ ⟨_, rfl⟩ hO32 hu32 hp31)
      · have t257 := wi_noL c27 l_m60 l_60
        refine ur_push rfl ?_
        exact ur_ret rfl rfl (hQ _ _ ⟨_, rfl⟩ hO0 un.rf pre0)

set_option maxRecDepth 20000 in
set_option maxHeartbeats 4000000 in
theorem sd_X12_whoseBy {d kc ks : Nat} {h0 : aH} {Q : Option aV → aH → Prop} (hO0 : OK h0) (hX0 : SX h0) (a1 : Int32) (b1 : 0 ≤ a1.toInt ∧ a1.toInt ≤ 149) (a2 : Int32) (b2 : 0 ≤ a2.toInt ∧ a2.toInt ≤ 11) (a3 : Int32) (b3 : -400 ≤ a3.toInt ∧ a3.toInt ≤ 400) (pre0 : SKm h0) (pre1 : a1.toInt < fI h0 38) (pre2 : a2.toInt < fI h0 4) (hQ : ∀ r h', (∃ x : Int32, r = some (.inl x) ∧ -60 ≤ x.toInt ∧ x.toInt ≤ 61) → OK h' → un [80, 81] h0 h' → (SKm h') → Q r h') : uCall Mt (d + 8) 254 [(.inr (.inr (some 69))), (.inl a1), (.inl a2), (.inl a3)] h0 kc ks Q := by
  have l_m60 : ((-60) : Int32).toInt = -60 := by decide
  have l_0 : ((0) : Int32).toInt = 0 := by decide
  have l_1 : ((1) : Int32).toInt = 1 := by decide
  have l_60 : ((60) : Int32).toInt = 60 := by decide
  have l_61 : ((61) : Int32).toInt = 61 := by decide
  refine uc_ink [some (.inr (.inr (some 69))), some (.inl a1), some (.inl a2), some (.inl a3), none, none] mt_254 (Nat.le_of_ble_eq_true rfl) rfl ?_
  obtain ⟨fs1, hc2⟩ := hO0.mod
  obtain ⟨f3, p4, t5⟩ := mf_4 hO0 hc2
  have t6 := fI_of hc2 p4
  obtain ⟨f7, p8, t9⟩ := mf_38 hO0 hc2
  have t10 := fI_of hc2 p8
  refine ur_push rfl ?_
  refine ur_svIk [some (.inr (.inr (some 69))), some (.inl a1), some (.inl a2), some (.inl a3), some (.inl (-60)), none] rfl rfl ?_
  have L13 : ∀ (m14 : Nat) (x11 : Int32) (u12 : Option aV) (h16 : aH) , OK h16 → un [80, 81] h0 h16 → ((-60 ≤ x11.toInt ∧ x11.toInt ≤ 61)) → (SKm h16) → ((62 - x11.toInt).toNat) < m14 → uRun oX12_whoseBy (uCall Mt (d + 7)) Q 4 ([some (.inr (.inr (some 69))), some (.inl a1), some (.inl a2), some (.inl a3), some (.inl x11), u12], [], h16, kc, ks) := by
    intro m14
    induction m14 with
    | zero => intro x11 u12 h16 hO16 hu16 iv18 px17 mm19; omega
    | succ m14 ih15 =>
      intro x11 u12 h16 hO16 hu16 iv18 px17 mm19
      refine ur_ldI rfl rfl ?_
      refine ur_push rfl ?_
      refine ur_if2 rfl (fun c20 => ?_) (fun c20 => ?_)
      · have t21 := lt_to c20
        refine ur_push rfl ?_
        obtain ⟨fs22, hc23⟩ := hO16.mod
        obtain ⟨f24, p25, t26⟩ := mf_4 hO16 hc23
        have t27 := fI_of hc23 p25
        obtain ⟨f28, p29, t30⟩ := mf_38 hO16 hc23
        have t31 := fI_of hc23 p29
        have t32 := fI_keep (k := 4) hO0 hO16 hu16 rfl (by decide)
        have t33 := fI_keep (k := 38) hO0 hO16 hu16 rfl (by decide)
        exact ur_ret rfl rfl (hQ _ _ ⟨_, rfl, by omega⟩ hO16 hu16 px17)
      · have t34 := lt_no c20
        refine ur_ldA rfl rfl ?_
        refine ur_ldI rfl rfl ?_
        refine ur_ldI rfl rfl ?_
        obtain ⟨fs35, hc36⟩ := hO16.mod
        obtain ⟨f37, p38, t39⟩ := mf_4 hO16 hc36
        have t40 := fI_of hc36 p38
        have t41 := fI_keep (k := 4) hO0 hO16 hu16 rfl (by decide)
        have t42 := fI_keep (k := 38) hO0 hO16 hu16 rfl (by decide)
        refine ur_inl rfl (rcv_of hc36) (Nat.le_of_ble_eq_true rfl) (Nat.le_of_ble_eq_true rfl) (sd_X12_passOf hO16 (hX0.un hO0 hO16 hu16 (by decide)) _ (by show 0 ≤ a2.toInt ∧ a2.toInt ≤ 11; omega) _ (by show -60 ≤ x11.toInt ∧ x11.toInt ≤ 60; omega) px17 (by omega) (fun w43 h46 hr44 hO46 hv46 hp45 => ?_))
        have hu46 := hv46
        obtain ⟨x47, rfl, f48⟩ := hr44
        show uRun _ (uCall Mt _) _ 18 (_, [(.inl x47)], _, _, _)
        refine ur_svIk [some (.inr (.inr (some 69))), some (.inl a1), some (.inl a2), some (.inl a3), some (.inl x11), some (.inl x47)] rfl rfl ?_
        refine ur_ldI rfl rfl ?_
        refine ur_if1 rfl (fun c49 => ?_) (fun c49 => ?_)
        · have t50 := lt_to c49
          refine ur_incV (fun z => [some (.inr (.inr (some 69))), some (.inl a1), some (.inl a2), some (.inl a3), some (.inl z), some (.inl x47)]) rfl rfl (fun _ => rfl) (fun x51 e52 => ?_)
          have z53 := any_r x11
          have t54 := ti_add e52 (by omega) (by omega)
          refine ur_go rfl ?_
          obtain ⟨fs55, hc56⟩ := hO46.mod
          obtain ⟨f57, p58, t59⟩ := mf_4 hO46 hc56
          have t60 := fI_of hc56 p58
          obtain ⟨f61, p62, t63⟩ := mf_38 hO46 hc56
          have t64 := fI_of hc56 p62
          have z65 := any_r x51
          exact ih15 x51 _ _ hO46 (hu16.tr hu46) (by omega) hp45 (by omega)
        · have t66 := lt_no c49
          refine ur_ldA rfl rfl ?_
          refine ur_ldI rfl rfl ?_
          refine ur_ldI rfl rfl ?_
          refine ur_ldI rfl rfl ?_
          refine ur_ldI rfl rfl ?_
          refine ur_push rfl ?_
          obtain ⟨fs67, hc68⟩ := hO46.mod
          obtain ⟨f69, p70, t71⟩ := mf_4 hO46 hc68
          have t72 := fI_of hc68 p70
          obtain ⟨f73, p74, t75⟩ := mf_38 hO46 hc68
          have t76 := fI_of hc68 p74
          have t77 := fI_keep (k := 4) hO0 hO46 (hu16.tr hu46) rfl (by decide)
          have t78 := fI_keep (k := 38) hO0 hO46 (hu16.tr hu46) rfl (by decide)
          refine ur_inl rfl (rcv_of hc68) (Nat.le_of_ble_eq_true rfl) (Nat.le_of_ble_eq_true rfl) (sf_X12_fitDay hO46 (hX0.un hO0 hO46 (hu16.tr hu46) (by decide)) _ (by show 0 ≤ a1.toInt ∧ a1.toInt ≤ 149; omega) _ (by show 0 ≤ a2.toInt ∧ a2.toInt ≤ 11; omega) _ (by show -20000 ≤ x47.toInt ∧ x47.toInt ≤ 1020000; omega) _ (by show -400 ≤ a3.toInt ∧ a3.toInt ≤ 400; omega) _ (by show 0 ≤ (0 : Int32).toInt ∧ (0 : Int32).toInt ≤ 1020000; omega) (by omega) (by omega) (fun w79 h81 hr80 hO81 hv81 => ?_))
          have hu81 : un [80, 81] h46 h81 := hv81.mono (by decide)
          obtain ⟨x82, rfl, t83⟩ := hr80
          show uRun _ (uCall Mt _) _ 35 (_, [(.inl x82)], _, _, _)
          refine ur_if1 rfl (fun c84 => ?_) (fun c84 => ?_)
          · have t85 := lt_to c84
            refine ur_incV (fun z => [some (.inr (.inr (some 69))), some (.inl a1), some (.inl a2), some (.inl a3), some (.inl z), some (.inl x47)]) rfl rfl (fun _ => rfl) (fun x86 e87 => ?_)
            have z88 := any_r x11
            have t89 := ti_add e87 (by omega) (by omega)
            refine ur_go rfl ?_
            obtain ⟨fs90, hc91⟩ := hO81.mod
            obtain ⟨f92, p93, t94⟩ := mf_4 hO81 hc91
            have t95 := fI_of hc91 p93
            obtain ⟨f96, p97, t98⟩ := mf_38 hO81 hc91
            have t99 := fI_of hc91 p97
            have z100 := any_r x86
            exact ih15 x86 _ _ hO81 (hu16.tr (hu46.tr hu81)) (by omega) (hp45.un hO46 hO81 hv81 (by decide)) (by omega)
          · have t101 := lt_no c84
            refine ur_ldI rfl rfl ?_
            obtain ⟨fs102, hc103⟩ := hO81.mod
            obtain ⟨f104, p105, t106⟩ := mf_4 hO81 hc103
            have t107 := fI_of hc103 p105
            obtain ⟨f108, p109, t110⟩ := mf_38 hO81 hc103
            have t111 := fI_of hc103 p109
            have t112 := fI_keep (k := 4) hO0 hO81 (hu16.tr (hu46.tr hu81)) rfl (by decide)
            have t113 := fI_keep (k := 38) hO0 hO81 (hu16.tr (hu46.tr hu81)) rfl (by decide)
            exact ur_ret rfl rfl (hQ _ _ ⟨_, rfl, by omega⟩ hO81 (hu16.tr (hu46.tr hu81)) (hp45.un hO46 hO81 hv81 (by decide)))
  exact L13 _ (-60) (none) _ hO0 un.rf (by omega) pre0 (Nat.lt_succ_self _)

set_option maxRecDepth 20000 in
set_option maxHeartbeats 4000000 in
theorem sd_X12_whose {d kc ks : Nat} {h0 : aH} {Q : Option aV → aH → Prop} (hO0 : OK h0) (hX0 : SX h0) (a1 : Int32) (a2 : Int32) (pre0 : SKm h0) (hQ : ∀ r h', (∃ x, r = some (.inl x)) → OK h' → un [80, 81] h0 h' → (SKm h') → Q r h') : uCall Mt (d + 9) 255 [(.inr (.inr (some 69))), (.inl a1), (.inl a2)] h0 kc ks Q := by
  have l_m2000000000 : ((-2000000000) : Int32).toInt = -2000000000 := by decide
  have l_0 : ((0) : Int32).toInt = 0 := by decide
  have l_60 : ((60) : Int32).toInt = 60 := by decide
  refine uc_ink [some (.inr (.inr (some 69))), some (.inl a1), some (.inl a2), none] mt_255 (Nat.le_of_ble_eq_true rfl) rfl ?_
  obtain ⟨fs1, hc2⟩ := hO0.mod
  obtain ⟨f3, p4, t5⟩ := mf_4 hO0 hc2
  have t6 := fI_of hc2 p4
  obtain ⟨f7, p8, t9⟩ := mf_38 hO0 hc2
  have t10 := fI_of hc2 p8
  refine ur_ldA rfl rfl ?_
  refine ur_ldI rfl rfl ?_
  refine ur_inl rfl (rcv_of hc2) (Nat.le_of_ble_eq_true rfl) (Nat.le_of_ble_eq_true rfl) (sd_X12_isWord hO0 _ (fun w11 hr12 => ?_))
  obtain ⟨b13, rfl, t14, t15⟩ := hr12
  show uRun _ (uCall Mt _) _ 5 (_, [(.inl (bi b13))], _, _, _)
  refine ur_eqB rfl (fun c16 => ?_) (fun c16 => ?_)
  · have t17 := t15 c16
    clear t14 t15
    refine ur_push rfl ?_
    exact ur_ret rfl rfl (hQ _ _ ⟨_, rfl⟩ hO0 un.rf pre0)
  · have t18 := t14 c16
    clear t14 t15
    refine ur_ldA rfl rfl ?_
    refine ur_ldI rfl rfl ?_
    refine ur_inl rfl (rcv_of hc2) (Nat.le_of_ble_eq_true rfl) (Nat.le_of_ble_eq_true rfl) (sg_isComet hO0 _ (fun w19 hr20 => ?_))
    obtain ⟨b21, rfl, t22⟩ := hr20
    show uRun _ (uCall Mt _) _ 13 (_, [(.inl (bi b21))], _, _, _)
    refine ur_neB rfl (fun c23 => ?_) (fun c23 => ?_)
    · have t24 := t22 c23
      clear t22
      refine ur_ldA rfl rfl ?_
      refine ur_ldI rfl rfl ?_
      refine ur_ldI rfl rfl ?_
      refine ur_push rfl ?_
      refine ur_inl rfl (rcv_of hc2) (Nat.le_of_ble_eq_true rfl) (Nat.le_of_ble_eq_true rfl) (sd_X12_whoseBy hO0 hX0 _ (by show 0 ≤ a1.toInt ∧ a1.toInt ≤ 149; omega) _ (by show 0 ≤ a2.toInt ∧ a2.toInt ≤ 11; omega) _ (by show -400 ≤ (0 : Int32).toInt ∧ (0 : Int32).toInt ≤ 400; omega) pre0 (by omega) (by omega) (fun w25 h28 hr26 hO28 hv28 hp27 => ?_))
      have hu28 := hv28
      obtain ⟨x29, rfl, t30⟩ := hr26
      show uRun _ (uCall Mt _) _ 26 (_, [(.inl x29)], _, _, _)
      refine ur_svIk [some (.inr (.inr (some 69))), some (.inl a1), some (.inl a2), some (.inl x29)] rfl rfl ?_
      refine ur_ldI rfl rfl ?_
      refine ur_push rfl ?_
      refine ur_if2 rfl (fun c31 => ?_) (fun c31 => ?_)
      · have t32 := le_to c31
        refine ur_ldI rfl rfl ?_
        obtain ⟨fs33, hc34⟩ := hO28.mod
        obtain ⟨f35, p36, t37⟩ := mf_4 hO28 hc34
        have t38 := fI_of hc34 p36
        obtain ⟨f39, p40, t41⟩ := mf_38 hO28 hc34
        have t42 := fI_of hc34 p40
        have t43 := fI_keep (k := 4) hO0 hO28 hu28 rfl (by decide)
        have t44 := fI_keep (k := 38) hO0 hO28 hu28 rfl (by decide)
        exact ur_ret rfl rfl (hQ _ _ ⟨_, rfl⟩ hO28 hu28 hp27)
      · have t45 := le_no c31
        refine ur_push rfl ?_
        refine ur_go rfl ?_
        obtain ⟨fs46, hc47⟩ := hO28.mod
        obtain ⟨f48, p49, t50⟩ := mf_4 hO28 hc47
        have t51 := fI_of hc47 p49
        obtain ⟨f52, p53, t54⟩ := mf_38 hO28 hc47
        have t55 := fI_of hc47 p53
        have t56 := fI_keep (k := 4) hO0 hO28 hu28 rfl (by decide)
        have t57 := fI_keep (k := 38) hO0 hO28 hu28 rfl (by decide)
        exact ur_ret rfl rfl (hQ _ _ ⟨_, rfl⟩ hO28 hu28 hp27)
    · clear t22
      refine ur_push rfl ?_
      exact ur_ret rfl rfl (hQ _ _ ⟨_, rfl⟩ hO0 un.rf pre0)

set_option maxRecDepth 20000 in
set_option maxHeartbeats 4000000 in
theorem sd_X12_behind {d kc ks : Nat} {h0 : aH} {Q : Option aV → aH → Prop} (hO0 : OK h0) (hX0 : SX h0) (a1 : Int32) (a2 : Int32) (pre0 : SKm h0) (hQ : ∀ r h', (∃ x, r = some (.inl x)) → OK h' → un [80, 81] h0 h' → (SKm h') → Q r h') : uCall Mt (d + 9) 258 [(.inr (.inr (some 69))), (.inl a1), (.inl a2)] h0 kc ks Q := by
  have l_m60 : ((-60) : Int32).toInt = -60 := by decide
  have l_m2 : ((-2) : Int32).toInt = -2 := by decide
  have l_m1 : ((-1) : Int32).toInt = -1 := by decide
  have l_0 : ((0) : Int32).toInt = 0 := by decide
  have l_1 : ((1) : Int32).toInt = 1 := by decide
  have l_60 : ((60) : Int32).toInt = 60 := by decide
  have l_100 : ((100) : Int32).toInt = 100 := by decide
  have l_1000 : ((1000) : Int32).toInt = 1000 := by decide
  refine uc_ink [some (.inr (.inr (some 69))), some (.inl a1), some (.inl a2), none, none, none] mt_258 (Nat.le_of_ble_eq_true rfl) rfl ?_
  obtain ⟨fs1, hc2⟩ := hO0.mod
  obtain ⟨f3, p4, t5⟩ := mf_4 hO0 hc2
  have t6 := fI_of hc2 p4
  obtain ⟨f7, p8, t9⟩ := mf_38 hO0 hc2
  have t10 := fI_of hc2 p8
  refine ur_ldA rfl rfl ?_
  refine ur_ldI rfl rfl ?_
  refine ur_inl rfl (rcv_of hc2) (Nat.le_of_ble_eq_true rfl) (Nat.le_of_ble_eq_true rfl) (sd_X12_isWord hO0 _ (fun w11 hr12 => ?_))
  obtain ⟨b13, rfl, t14, t15⟩ := hr12
  show uRun _ (uCall Mt _) _ 5 (_, [(.inl (bi b13))], _, _, _)
  refine ur_eqB rfl (fun c16 => ?_) (fun c16 => ?_)
  · have t17 := t15 c16
    clear t14 t15
    refine ur_push rfl ?_
    exact ur_ret rfl rfl (hQ _ _ ⟨_, rfl⟩ hO0 un.rf pre0)
  · have t18 := t14 c16
    clear t14 t15
    refine ur_ldA rfl rfl ?_
    refine ur_ldI rfl rfl ?_
    refine ur_inl rfl (rcv_of hc2) (Nat.le_of_ble_eq_true rfl) (Nat.le_of_ble_eq_true rfl) (sd_X12_isWord hO0 _ (fun w19 hr20 => ?_))
    obtain ⟨b21, rfl, t22, t23⟩ := hr20
    show uRun _ (uCall Mt _) _ 13 (_, [(.inl (bi b21))], _, _, _)
    refine ur_eqB rfl (fun c24 => ?_) (fun c24 => ?_)
    · have t25 := t23 c24
      clear t22 t23
      refine ur_push rfl ?_
      exact ur_ret rfl rfl (hQ _ _ ⟨_, rfl⟩ hO0 un.rf pre0)
    · have t26 := t22 c24
      clear t22 t23
      refine ur_ldI rfl rfl ?_
      refine ur_ldI rfl rfl ?_
      have z27 := any_r a1
      have z28 := any_r a2
      refine ur_if2 rfl (fun c29 => ?_) (fun c29 => ?_)
      · have t30 := ne_to c29
        refine ur_push rfl ?_
        refine ur_svIk [some (.inr (.inr (some 69))), some (.inl a1), some (.inl a2), some (.inl 0), none, none] rfl rfl ?_
        have L34 : ∀ (m35 : Nat) (x31 : Int32) (u32 : Option aV) (u33 : Option aV) (h37 : aH) , OK h37 → un [80, 81] h0 h37 → ((0 ≤ x31.toInt ∧ x31.toInt ≤ 2147483647)) → (SKm h37) → ((2147483648 - x31.toInt).toNat) < m35 → uRun oX12_behind (uCall Mt (d + 8)) Q 25 ([some (.inr (.inr (some 69))), some (.inl a1), some (.inl a2), some (.inl x31), u32, u33], [], h37, kc, ks) := by
          intro m35
          induction m35 with
          | zero => intro x31 u32 u33 h37 hO37 hu37 iv39 px38 mm40; omega
          | succ m35 ih36 =>
            intro x31 u32 u33 h37 hO37 hu37 iv39 px38 mm40
            refine ur_ldI rfl rfl ?_
            refine ur_ldA rfl rfl ?_
            obtain ⟨fs41, hc42⟩ := hO37.mod
            obtain ⟨f43, p44, t45⟩ := mf_4 hO37 hc42
            have t46 := fI_of hc42 p44
            have t47 := fI_keep (k := 4) hO0 hO37 hu37 rfl (by decide)
            have t48 := fI_keep (k := 38) hO0 hO37 hu37 rfl (by decide)
            refine ur_get rfl hc42 p44 ?_
            have z49 := any_r x31
            have z50 := any_r f43
            refine ur_if2 rfl (fun c51 => ?_) (fun c51 => ?_)
            · have t52 := le_to c51
              refine ur_push rfl ?_
              obtain ⟨f53, p54, t55⟩ := mf_38 hO37 hc42
              have t56 := fI_of hc42 p54
              exact ur_ret rfl rfl (hQ _ _ ⟨_, rfl⟩ hO37 hu37 px38)
            · have t57 := le_no c51
              refine ur_push rfl ?_
              refine ur_svIk [some (.inr (.inr (some 69))), some (.inl a1), some (.inl a2), some (.inl x31), some (.inl (-60)), u33] rfl rfl ?_
              obtain ⟨f63, p64, t65⟩ := mf_38 hO37 hc42
              have t66 := fI_of hc42 p64
              have L60 : ∀ (m61 : Nat) (x58 : Int32) (u59 : Option aV) (h67 : aH) , OK h67 → un [80, 81] h37 h67 → ((-60 ≤ x58.toInt ∧ x58.toInt ≤ 2147483647)) → (SKm h67) → ((2147483648 - x58.toInt).toNat) < m61 → uRun oX12_behind (uCall Mt (d + 8)) Q 37 ([some (.inr (.inr (some 69))), some (.inl a1), some (.inl a2), some (.inl x31), some (.inl x58), u59], [], h67, kc, ks) := by
                intro m61
                induction m61 with
                | zero => intro x58 u59 h67 hO67 hu67 iv69 px68 mm70; omega
                | succ m61 ih62 =>
                  intro x58 u59 h67 hO67 hu67 iv69 px68 mm70
                  refine ur_ldI rfl rfl ?_
                  refine ur_push rfl ?_
                  refine ur_if2 rfl (fun c71 => ?_) (fun c71 => ?_)
                  · have t72 := lt_to c71
                    refine ur_incV (fun z => [some (.inr (.inr (some 69))), some (.inl a1), some (.inl a2), some (.inl z), some (.inl x58), u59]) rfl rfl (fun _ => rfl) (fun x73 e74 => ?_)
                    have t75 := ti_add e74 (by omega) (by omega)
                    refine ur_go rfl ?_
                    obtain ⟨fs76, hc77⟩ := hO67.mod
                    obtain ⟨f78, p79, t80⟩ := mf_4 hO67 hc77
                    have t81 := fI_of hc77 p79
                    obtain ⟨f82, p83, t84⟩ := mf_38 hO67 hc77
                    have t85 := fI_of hc77 p83
                    have z86 := any_r x73
                    exact ih36 x73 _ _ _ hO67 (hu37.tr hu67) (by omega) px68 (by omega)
                  · have t87 := lt_no c71
                    refine ur_ldA rfl rfl ?_
                    refine ur_ldI rfl rfl ?_
                    refine ur_ldI rfl rfl ?_
                    obtain ⟨fs88, hc89⟩ := hO67.mod
                    obtain ⟨f90, p91, t92⟩ := mf_4 hO67 hc89
                    have t93 := fI_of hc89 p91
                    have t94 := fI_keep (k := 4) hO0 hO67 (hu37.tr hu67) rfl (by decide)
                    have t95 := fI_keep (k := 38) hO0 hO67 (hu37.tr hu67) rfl (by decide)
                    refine ur_inl rfl (rcv_of hc89) (Nat.le_of_ble_eq_true rfl) (Nat.le_of_ble_eq_true rfl) (sd_X12_passOf hO67 (hX0.un hO0 hO67 (hu37.tr hu67) (by decide)) _ (by show 0 ≤ x31.toInt ∧ x31.toInt ≤ 11; omega) _ (by show -60 ≤ x58.toInt ∧ x58.toInt ≤ 60; omega) px68 (by omega) (fun w96 h99 hr97 hO99 hv99 hp98 => ?_))
                    have hu99 := hv99
                    obtain ⟨x100, rfl, f101⟩ := hr97
                    show uRun _ (uCall Mt _) _ 51 (_, [(.inl x100)], _, _, _)
                    refine ur_svIk [some (.inr (.inr (some 69))), some (.inl a1), some (.inl a2), some (.inl x31), some (.inl x58), some (.inl x100)] rfl rfl ?_
                    refine ur_ldI rfl rfl ?_
                    refine ur_if1 rfl (fun c102 => ?_) (fun c102 => ?_)
                    · have t103 := lt_to c102
                      refine ur_incV (fun z => [some (.inr (.inr (some 69))), some (.inl a1), some (.inl a2), some (.inl x31), some (.inl z), some (.inl x100)]) rfl rfl (fun _ => rfl) (fun x104 e105 => ?_)
                      have z106 := any_r x58
                      have t107 := ti_add e105 (by omega) (by omega)
                      refine ur_go rfl ?_
                      obtain ⟨fs108, hc109⟩ := hO99.mod
                      obtain ⟨f110, p111, t112⟩ := mf_4 hO99 hc109
                      have t113 := fI_of hc109 p111
                      obtain ⟨f114, p115, t116⟩ := mf_38 hO99 hc109
                      have t117 := fI_of hc109 p115
                      have z118 := any_r x104
                      exact ih62 x104 _ _ hO99 (hu67.tr hu99) (by omega) hp98 (by omega)
                    · have t119 := lt_no c102
                      refine ur_ldA rfl rfl ?_
                      refine ur_ldI rfl rfl ?_
                      refine ur_ldI rfl rfl ?_
                      refine ur_ldI rfl rfl ?_
                      refine ur_ldI rfl rfl ?_
                      obtain ⟨fs120, hc121⟩ := hO99.mod
                      obtain ⟨f122, p123, t124⟩ := mf_4 hO99 hc121
                      have t125 := fI_of hc121 p123
                      obtain ⟨f126, p127, t128⟩ := mf_38 hO99 hc121
                      have t129 := fI_of hc121 p127
                      have t130 := fI_keep (k := 4) hO0 hO99 (hu37.tr (hu67.tr hu99)) rfl (by decide)
                      have t131 := fI_keep (k := 38) hO0 hO99 (hu37.tr (hu67.tr hu99)) rfl (by decide)
                      refine ur_inl rfl (rcv_of hc121) (Nat.le_of_ble_eq_true rfl) (Nat.le_of_ble_eq_true rfl) (sf_X12_isAheadThenBehind hO99 (hX0.un hO0 hO99 (hu37.tr (hu67.tr hu99)) (by decide)) _ (by show 0 ≤ a1.toInt ∧ a1.toInt ≤ 149; omega) _ (by show 0 ≤ a2.toInt ∧ a2.toInt ≤ 149; omega) _ (by show 0 ≤ x31.toInt ∧ x31.toInt ≤ 11; omega) _ (by show 0 ≤ x100.toInt ∧ x100.toInt ≤ 999999; omega) (by omega) (by omega) (by omega) (fun w132 h134 hr133 hO134 hv134 => ?_))
                      have hu134 : un [80, 81] h99 h134 := hv134.mono (by decide)
                      obtain ⟨b135, rfl⟩ := hr133
                      show uRun _ (uCall Mt _) _ 67 (_, [(.inl (bi b135))], _, _, _)
                      refine ur_neB rfl (fun c136 => ?_) (fun c136 => ?_)
                      · refine ur_push rfl ?_
                        refine ur_ldI rfl rfl ?_
                        refine ur_binV rfl (fun x137 e138 => ?_)
                        have t139 := ti_mulR e138 l_1000 (by omega) (by omega)
                        refine ur_push rfl ?_
                        refine ur_binV rfl (fun x140 e141 => ?_)
                        have z142 := any_r x137
                        have t143 := ti_add e141 (by omega) (by omega)
                        refine ur_ldI rfl rfl ?_
                        refine ur_binV rfl (fun x144 e145 => ?_)
                        have z146 := any_r x140
                        have z147 := any_r x58
                        have t148 := ti_add e145 (by omega) (by omega)
                        obtain ⟨fs149, hc150⟩ := hO134.mod
                        obtain ⟨f151, p152, t153⟩ := mf_4 hO134 hc150
                        have t154 := fI_of hc150 p152
                        obtain ⟨f155, p156, t157⟩ := mf_38 hO134 hc150
                        have t158 := fI_of hc150 p156
                        have t159 := fI_keep (k := 4) hO0 hO134 (hu37.tr (hu67.tr (hu99.tr hu134))) rfl (by decide)
                        have t160 := fI_keep (k := 38) hO0 hO134 (hu37.tr (hu67.tr (hu99.tr hu134))) rfl (by decide)
                        exact ur_ret rfl rfl (hQ _ _ ⟨_, rfl⟩ hO134 (hu37.tr (hu67.tr (hu99.tr hu134))) (hp98.un hO99 hO134 hv134 (by decide)))
                      · refine ur_ldA rfl rfl ?_
                        refine ur_ldI rfl rfl ?_
                        refine ur_ldI rfl rfl ?_
                        refine ur_ldI rfl rfl ?_
                        refine ur_ldI rfl rfl ?_
                        obtain ⟨fs161, hc162⟩ := hO134.mod
                        obtain ⟨f163, p164, t165⟩ := mf_4 hO134 hc162
                        have t166 := fI_of hc162 p164
                        obtain ⟨f167, p168, t169⟩ := mf_38 hO134 hc162
                        have t170 := fI_of hc162 p168
                        have t171 := fI_keep (k := 4) hO0 hO134 (hu37.tr (hu67.tr (hu99.tr hu134))) rfl (by decide)
                        have t172 := fI_keep (k := 38) hO0 hO134 (hu37.tr (hu67.tr (hu99.tr hu134))) rfl (by decide)
                        refine ur_inl rfl (rcv_of hc162) (Nat.le_of_ble_eq_true rfl) (Nat.le_of_ble_eq_true rfl) (sf_X12_isAheadThenBehind hO134 (hX0.un hO0 hO134 (hu37.tr (hu67.tr (hu99.tr hu134))) (by decide)) _ (by show 0 ≤ a2.toInt ∧ a2.toInt ≤ 149; omega) _ (by show 0 ≤ a1.toInt ∧ a1.toInt ≤ 149; omega) _ (by show 0 ≤ x31.toInt ∧ x31.toInt ≤ 11; omega) _ (by show 0 ≤ x100.toInt ∧ x100.toInt ≤ 999999; omega) (by omega) (by omega) (by omega) (fun w173 h175 hr174 hO175 hv175 => ?_))
                        have hu175 : un [80, 81] h134 h175 := hv175.mono (by decide)
                        obtain ⟨b176, rfl⟩ := hr174
                        show uRun _ (uCall Mt _) _ 79 (_, [(.inl (bi b176))], _, _, _)
                        refine ur_eqB rfl (fun c177 => ?_) (fun c177 => ?_)
                        · refine ur_incV (fun z => [some (.inr (.inr (some 69))), some (.inl a1), some (.inl a2), some (.inl x31), some (.inl z), some (.inl x100)]) rfl rfl (fun _ => rfl) (fun x178 e179 => ?_)
                          have z180 := any_r x58
                          have t181 := ti_add e179 (by omega) (by omega)
                          refine ur_go rfl ?_
                          obtain ⟨fs182, hc183⟩ := hO175.mod
                          obtain ⟨f184, p185, t186⟩ := mf_4 hO175 hc183
                          have t187 := fI_of hc183 p185
                          obtain ⟨f188, p189, t190⟩ := mf_38 hO175 hc183
                          have t191 := fI_of hc183 p189
                          have z192 := any_r x178
                          exact ih62 x178 _ _ hO175 (hu67.tr (hu99.tr (hu134.tr hu175))) (by omega) ((hp98.un hO99 hO134 hv134 (by decide)).un hO134 hO175 hv175 (by decide)) (by omega)
                        · refine ur_push rfl ?_
                          refine ur_ldI rfl rfl ?_
                          refine ur_binV rfl (fun x193 e194 => ?_)
                          have t195 := ti_mulR e194 l_1000 (by omega) (by omega)
                          refine ur_push rfl ?_
                          refine ur_binV rfl (fun x196 e197 => ?_)
                          have z198 := any_r x193
                          have t199 := ti_add e197 (by omega) (by omega)
                          refine ur_ldI rfl rfl ?_
                          refine ur_binV rfl (fun x200 e201 => ?_)
                          have z202 := any_r x196
                          have z203 := any_r x58
                          have t204 := ti_add e201 (by omega) (by omega)
                          obtain ⟨fs205, hc206⟩ := hO175.mod
                          obtain ⟨f207, p208, t209⟩ := mf_4 hO175 hc206
                          have t210 := fI_of hc206 p208
                          obtain ⟨f211, p212, t213⟩ := mf_38 hO175 hc206
                          have t214 := fI_of hc206 p212
                          have t215 := fI_keep (k := 4) hO0 hO175 (hu37.tr (hu67.tr (hu99.tr (hu134.tr hu175)))) rfl (by decide)
                          have t216 := fI_keep (k := 38) hO0 hO175 (hu37.tr (hu67.tr (hu99.tr (hu134.tr hu175)))) rfl (by decide)
                          exact ur_ret rfl rfl (hQ _ _ ⟨_, rfl⟩ hO175 (hu37.tr (hu67.tr (hu99.tr (hu134.tr hu175)))) ((hp98.un hO99 hO134 hv134 (by decide)).un hO134 hO175 hv175 (by decide)))
              exact L60 _ (-60) (u33) _ hO37 un.rf (by omega) px38 (Nat.lt_succ_self _)
        exact L34 _ 0 (none) (none) _ hO0 un.rf (by omega) pre0 (Nat.lt_succ_self _)
      · have t217 := ne_no c29
        refine ur_push rfl ?_
        exact ur_ret rfl rfl (hQ _ _ ⟨_, rfl⟩ hO0 un.rf pre0)

set_option maxRecDepth 20000 in
set_option maxHeartbeats 4000000 in
theorem sd_X12_findStory {d kc ks : Nat} {h0 : aH} {Q : Option aV → aH → Prop} (hO0 : OK h0) (hX0 : SX h0) (a1 : Int32) (pre0 : SKm h0) (hQ : ∀ r h', (r = none) → OK h' → un [80, 81, 105, 106] h0 h' → (SKm h') → Q r h') : uCall Mt (d + 9) 262 [(.inr (.inr (some 69))), (.inl a1)] h0 kc ks Q := by
  have l_m60 : ((-60) : Int32).toInt = -60 := by decide
  have l_0 : ((0) : Int32).toInt = 0 := by decide
  have l_1 : ((1) : Int32).toInt = 1 := by decide
  have l_3 : ((3) : Int32).toInt = 3 := by decide
  have l_60 : ((60) : Int32).toInt = 60 := by decide
  refine uc_ink [some (.inr (.inr (some 69))), some (.inl a1), none, none, none] mt_262 (Nat.le_of_ble_eq_true rfl) rfl ?_
  obtain ⟨fs1, hc2⟩ := hO0.mod
  obtain ⟨f3, p4, t5⟩ := mf_4 hO0 hc2
  have t6 := fI_of hc2 p4
  obtain ⟨f7, p8, t9⟩ := mf_38 hO0 hc2
  have t10 := fI_of hc2 p8
  refine ur_push rfl ?_
  refine ur_svIk [some (.inr (.inr (some 69))), some (.inl a1), some (.inl 0), none, none] rfl rfl ?_
  have L13 : ∀ (m14 : Nat) (x11 : Int32) (u12 : Option aV) (h16 : aH) , OK h16 → un [80, 81, 105, 106] h0 h16 → ((0 ≤ x11.toInt ∧ x11.toInt ≤ 2147483647)) → (SKm h16) → ((2147483648 - x11.toInt).toNat) < m14 → uRun oX12_findStory (uCall Mt (d + 8)) Q 2 ([some (.inr (.inr (some 69))), some (.inl a1), some (.inl x11), u12, none], [], h16, kc, ks) := by
    intro m14
    induction m14 with
    | zero => intro x11 u12 h16 hO16 hu16 iv18 px17 mm19; omega
    | succ m14 ih15 =>
      intro x11 u12 h16 hO16 hu16 iv18 px17 mm19
      refine ur_ldI rfl rfl ?_
      refine ur_ldA rfl rfl ?_
      obtain ⟨fs20, hc21⟩ := hO16.mod
      obtain ⟨f22, p23, t24⟩ := mf_38 hO16 hc21
      have t25 := fI_of hc21 p23
      have t26 := fI_keep (k := 4) hO0 hO16 hu16 rfl (by decide)
      have t27 := fI_keep (k := 38) hO0 hO16 hu16 rfl (by decide)
      refine ur_get rfl hc21 p23 ?_
      have z28 := any_r x11
      have z29 := any_r f22
      refine ur_if2 rfl (fun c30 => ?_) (fun c30 => ?_)
      · have t31 := le_to c30
        refine ur_push rfl ?_
        refine ur_svIk [some (.inr (.inr (some 69))), some (.inl a1), some (.inl 0), u12, none] rfl rfl ?_
        obtain ⟨f38, p39, t40⟩ := mf_4 hO16 hc21
        have t41 := fI_of hc21 p39
        have L35 : ∀ (m36 : Nat) (x32 : Int32) (u33 : Option aV) (u34 : Option aV) (h42 : aH) , OK h42 → un [80, 81, 105, 106] h16 h42 → ((0 ≤ x32.toInt ∧ x32.toInt ≤ 2147483647)) → (SKm h42) → ((2147483648 - x32.toInt).toNat) < m36 → uRun oX12_findStory (uCall Mt (d + 8)) Q 87 ([some (.inr (.inr (some 69))), some (.inl a1), some (.inl x32), u33, u34], [], h42, kc, ks) := by
          intro m36
          induction m36 with
          | zero => intro x32 u33 u34 h42 hO42 hu42 iv44 px43 mm45; omega
          | succ m36 ih37 =>
            intro x32 u33 u34 h42 hO42 hu42 iv44 px43 mm45
            refine ur_ldI rfl rfl ?_
            refine ur_ldA rfl rfl ?_
            obtain ⟨fs46, hc47⟩ := hO42.mod
            obtain ⟨f48, p49, t50⟩ := mf_4 hO42 hc47
            have t51 := fI_of hc47 p49
            have t52 := fI_keep (k := 4) hO0 hO42 (hu16.tr hu42) rfl (by decide)
            have t53 := fI_keep (k := 38) hO0 hO42 (hu16.tr hu42) rfl (by decide)
            refine ur_get rfl hc47 p49 ?_
            have z54 := any_r x32
            have z55 := any_r f48
            refine ur_if2 rfl (fun c56 => ?_) (fun c56 => ?_)
            · have t57 := le_to c56
              obtain ⟨f58, p59, t60⟩ := mf_38 hO42 hc47
              have t61 := fI_of hc47 p59
              exact ur_ret0 rfl (hQ _ _ rfl hO42 (hu16.tr hu42) px43)
            · have t62 := le_no c56
              refine ur_ldA rfl rfl ?_
              refine ur_get rfl hc47 (mf_56 hO42 hc47) ?_
              refine ur_ldI rfl rfl ?_
              refine ur_push rfl ?_
              obtain ⟨xs64, hc63, hn65, he66⟩ := hO42.int (hO42.fix 106 (by decide) rfl)
              refine ur_astV (W := [106]) (m := 12) rfl hO42 hc63 (by decide) hn65 (by omega) (any_r _) (Or.inr (Or.inr (wid_fix (by decide) (by decide)))) (fun h69 hO69 hv69 d67 hc68 => ?_)
              have hu69 : un [80, 81, 105, 106] h42 h69 := hv69.mono (by decide)
              refine ur_ldI rfl rfl ?_
              refine ur_ldI rfl rfl ?_
              refine ur_binV rfl (fun x70 e71 => ?_)
              have z72 := any_r a1
              refine ur_push rfl ?_
              refine ur_binV rfl (fun x73 e74 => ?_)
              have t75 := and_1 e74
              refine ur_if1 rfl (fun c76 => ?_) (fun c76 => ?_)
              · have t77 := ne_to c76
                refine ur_push rfl ?_
                refine ur_svIk [some (.inr (.inr (some 69))), some (.inl a1), some (.inl x32), some (.inl (-60)), u34] rfl rfl ?_
                have t83 := fI_of ((d67 _ (by decide)).trans hc47) p49
                obtain ⟨f84, p85, t86⟩ := mf_38 hO69 ((d67 _ (by decide)).trans hc47)
                have t87 := fI_of ((d67 _ (by decide)).trans hc47) p85
                have L80 : ∀ (m81 : Nat) (x78 : Int32) (u79 : Option aV) (h88 : aH) , OK h88 → un [80, 81, 105, 106] h69 h88 → ((-60 ≤ x78.toInt ∧ x78.toInt ≤ 2147483647)) → (SKm h88) → ((2147483648 - x78.toInt).toNat) < m81 → uRun oX12_findStory (uCall Mt (d + 8)) Q 116 ([some (.inr (.inr (some 69))), some (.inl a1), some (.inl x32), some (.inl x78), u79], [], h88, kc, ks) := by
                  intro m81
                  induction m81 with
                  | zero => intro x78 u79 h88 hO88 hu88 iv90 px89 mm91; omega
                  | succ m81 ih82 =>
                    intro x78 u79 h88 hO88 hu88 iv90 px89 mm91
                    refine ur_ldI rfl rfl ?_
                    refine ur_push rfl ?_
                    refine ur_if2 rfl (fun c92 => ?_) (fun c92 => ?_)
                    · have t93 := lt_to c92
                      refine ur_incV (fun z => [some (.inr (.inr (some 69))), some (.inl a1), some (.inl z), some (.inl x78), u79]) rfl rfl (fun _ => rfl) (fun x94 e95 => ?_)
                      have t96 := ti_add e95 (by omega) (by omega)
                      refine ur_go rfl ?_
                      obtain ⟨fs97, hc98⟩ := hO88.mod
                      obtain ⟨f99, p100, t101⟩ := mf_4 hO88 hc98
                      have t102 := fI_of hc98 p100
                      obtain ⟨f103, p104, t105⟩ := mf_38 hO88 hc98
                      have t106 := fI_of hc98 p104
                      have z107 := any_r x94
                      exact ih37 x94 _ _ _ hO88 (hu42.tr (hu69.tr hu88)) (by omega) px89 (by omega)
                    · have t108 := lt_no c92
                      refine ur_ldA rfl rfl ?_
                      refine ur_ldI rfl rfl ?_
                      refine ur_ldI rfl rfl ?_
                      obtain ⟨fs109, hc110⟩ := hO88.mod
                      obtain ⟨f111, p112, t113⟩ := mf_4 hO88 hc110
                      have t114 := fI_of hc110 p112
                      have t115 := fI_keep (k := 4) hO0 hO88 (hu16.tr (hu42.tr (hu69.tr hu88))) rfl (by decide)
                      have t116 := fI_keep (k := 38) hO0 hO88 (hu16.tr (hu42.tr (hu69.tr hu88))) rfl (by decide)
                      refine ur_inl rfl (rcv_of hc110) (Nat.le_of_ble_eq_true rfl) (Nat.le_of_ble_eq_true rfl) (sd_X12_passOf hO88 (hX0.un hO0 hO88 (hu16.tr (hu42.tr (hu69.tr hu88))) (by decide)) _ (by show 0 ≤ x32.toInt ∧ x32.toInt ≤ 11; omega) _ (by show -60 ≤ x78.toInt ∧ x78.toInt ≤ 60; omega) px89 (by omega) (fun w117 h120 hr118 hO120 hv120 hp119 => ?_))
                      have hu120 : un [80, 81, 105, 106] h88 h120 := hv120.mono (by decide)
                      obtain ⟨x121, rfl, f122⟩ := hr118
                      show uRun _ (uCall Mt _) _ 128 (_, [(.inl x121)], _, _, _)
                      refine ur_svIk [some (.inr (.inr (some 69))), some (.inl a1), some (.inl x32), some (.inl x78), some (.inl x121)] rfl rfl ?_
                      refine ur_ldI rfl rfl ?_
                      refine ur_if1 rfl (fun c123 => ?_) (fun c123 => ?_)
                      · have t124 := lt_to c123
                        refine ur_incV (fun z => [some (.inr (.inr (some 69))), some (.inl a1), some (.inl x32), some (.inl z), some (.inl x121)]) rfl rfl (fun _ => rfl) (fun x125 e126 => ?_)
                        have z127 := any_r x78
                        have t128 := ti_add e126 (by omega) (by omega)
                        refine ur_go rfl ?_
                        obtain ⟨fs129, hc130⟩ := hO120.mod
                        obtain ⟨f131, p132, t133⟩ := mf_4 hO120 hc130
                        have t134 := fI_of hc130 p132
                        obtain ⟨f135, p136, t137⟩ := mf_38 hO120 hc130
                        have t138 := fI_of hc130 p136
                        have z139 := any_r x125
                        exact ih82 x125 _ _ hO120 (hu88.tr hu120) (by omega) hp119 (by omega)
                      · have t140 := lt_no c123
                        refine ur_ldA rfl rfl ?_
                        refine ur_ldI rfl rfl ?_
                        refine ur_ldI rfl rfl ?_
                        obtain ⟨fs141, hc142⟩ := hO120.mod
                        obtain ⟨f143, p144, t145⟩ := mf_4 hO120 hc142
                        have t146 := fI_of hc142 p144
                        obtain ⟨f147, p148, t149⟩ := mf_38 hO120 hc142
                        have t150 := fI_of hc142 p148
                        have t151 := fI_keep (k := 4) hO0 hO120 (hu16.tr (hu42.tr (hu69.tr (hu88.tr hu120)))) rfl (by decide)
                        have t152 := fI_keep (k := 38) hO0 hO120 (hu16.tr (hu42.tr (hu69.tr (hu88.tr hu120)))) rfl (by decide)
                        refine ur_inl rfl (rcv_of hc142) (Nat.le_of_ble_eq_true rfl) (Nat.le_of_ble_eq_true rfl) (sf_X12_isWatched hO120 (hX0.un hO0 hO120 (hu16.tr (hu42.tr (hu69.tr (hu88.tr hu120)))) (by decide)) _ (by show 0 ≤ x32.toInt ∧ x32.toInt ≤ 11; omega) _ (by show 0 ≤ x121.toInt ∧ x121.toInt ≤ 999999; omega) (by omega) (fun w153 h155 hr154 hO155 hv155 => ?_))
                        have hu155 : un [80, 81, 105, 106] h120 h155 := hv155.mono (by decide)
                        obtain ⟨b156, rfl⟩ := hr154
                        show uRun _ (uCall Mt _) _ 142 (_, [(.inl (bi b156))], _, _, _)
                        refine ur_eqB rfl (fun c157 => ?_) (fun c157 => ?_)
                        · refine ur_incV (fun z => [some (.inr (.inr (some 69))), some (.inl a1), some (.inl x32), some (.inl z), some (.inl x121)]) rfl rfl (fun _ => rfl) (fun x158 e159 => ?_)
                          have z160 := any_r x78
                          have t161 := ti_add e159 (by omega) (by omega)
                          refine ur_go rfl ?_
                          obtain ⟨fs162, hc163⟩ := hO155.mod
                          obtain ⟨f164, p165, t166⟩ := mf_4 hO155 hc163
                          have t167 := fI_of hc163 p165
                          obtain ⟨f168, p169, t170⟩ := mf_38 hO155 hc163
                          have t171 := fI_of hc163 p169
                          have z172 := any_r x158
                          exact ih82 x158 _ _ hO155 (hu88.tr (hu120.tr hu155)) (by omega) (hp119.un hO120 hO155 hv155 (by decide)) (by omega)
                        · refine ur_ldA rfl rfl ?_
                          refine ur_ldI rfl rfl ?_
                          refine ur_ldI rfl rfl ?_
                          obtain ⟨fs173, hc174⟩ := hO155.mod
                          obtain ⟨f175, p176, t177⟩ := mf_4 hO155 hc174
                          have t178 := fI_of hc174 p176
                          obtain ⟨f179, p180, t181⟩ := mf_38 hO155 hc174
                          have t182 := fI_of hc174 p180
                          have t183 := fI_keep (k := 4) hO0 hO155 (hu16.tr (hu42.tr (hu69.tr (hu88.tr (hu120.tr hu155))))) rfl (by decide)
                          have t184 := fI_keep (k := 38) hO0 hO155 (hu16.tr (hu42.tr (hu69.tr (hu88.tr (hu120.tr hu155))))) rfl (by decide)
                          refine ur_inl rfl (rcv_of hc174) (Nat.le_of_ble_eq_true rfl) (Nat.le_of_ble_eq_true rfl) (sf_X12_isTold hO155 (hX0.un hO0 hO155 (hu16.tr (hu42.tr (hu69.tr (hu88.tr (hu120.tr hu155))))) (by decide)) _ (by show 0 ≤ x32.toInt ∧ x32.toInt ≤ 11; omega) _ (by show 0 ≤ x121.toInt ∧ x121.toInt ≤ 999999; omega) (by omega) (fun w185 h187 hr186 hO187 hv187 => ?_))
                          have hu187 : un [80, 81, 105, 106] h155 h187 := hv187.mono (by decide)
                          obtain ⟨b188, rfl⟩ := hr186
                          show uRun _ (uCall Mt _) _ 152 (_, [(.inl (bi b188))], _, _, _)
                          refine ur_neB rfl (fun c189 => ?_) (fun c189 => ?_)
                          · refine ur_incV (fun z => [some (.inr (.inr (some 69))), some (.inl a1), some (.inl x32), some (.inl z), some (.inl x121)]) rfl rfl (fun _ => rfl) (fun x190 e191 => ?_)
                            have z192 := any_r x78
                            have t193 := ti_add e191 (by omega) (by omega)
                            refine ur_go rfl ?_
                            obtain ⟨fs194, hc195⟩ := hO187.mod
                            obtain ⟨f196, p197, t198⟩ := mf_4 hO187 hc195
                            have t199 := fI_of hc195 p197
                            obtain ⟨f200, p201, t202⟩ := mf_38 hO187 hc195
                            have t203 := fI_of hc195 p201
                            have z204 := any_r x190
                            exact ih82 x190 _ _ hO187 (hu88.tr (hu120.tr (hu155.tr hu187))) (by omega) ((hp119.un hO120 hO155 hv155 (by decide)).un hO155 hO187 hv187 (by decide)) (by omega)
                          · refine ur_ldA rfl rfl ?_
                            obtain ⟨fs205, hc206⟩ := hO187.mod
                            refine ur_get rfl hc206 (mf_56 hO187 hc206) ?_
                            refine ur_ldI rfl rfl ?_
                            refine ur_dup2 rfl rfl rfl ?_
                            obtain ⟨xs208, hc207, hn209, he210⟩ := hO187.int (hO187.fix 106 (by decide) rfl)
                            refine ur_aldV rfl hc207 hn209 (by omega) (fun x211 hx212 => ?_)
                            refine ur_push rfl ?_
                            refine ur_binV rfl (fun x213 e214 => ?_)
                            have z215 := any_r x211
                            refine ur_astV (W := [106]) (m := 12) rfl hO187 hc207 (by decide) hn209 (by omega) (any_r _) (Or.inr (Or.inr (wid_fix (by decide) (by decide)))) (fun h218 hO218 hv218 d216 hc217 => ?_)
                            have hu218 : un [80, 81, 105, 106] h187 h218 := hv218.mono (by decide)
                            refine ur_incV (fun z => [some (.inr (.inr (some 69))), some (.inl a1), some (.inl x32), some (.inl z), some (.inl x121)]) rfl rfl (fun _ => rfl) (fun x219 e220 => ?_)
                            have z221 := any_r x78
                            have t222 := ti_add e220 (by omega) (by omega)
                            refine ur_go rfl ?_
                            obtain ⟨f223, p224, t225⟩ := mf_4 hO218 ((d216 _ (by decide)).trans hc206)
                            have t226 := fI_of ((d216 _ (by decide)).trans hc206) p224
                            obtain ⟨f227, p228, t229⟩ := mf_38 hO218 ((d216 _ (by decide)).trans hc206)
                            have t230 := fI_of ((d216 _ (by decide)).trans hc206) p228
                            have z231 := any_r x219
                            exact ih82 x219 _ _ hO218 (hu88.tr (hu120.tr (hu155.tr (hu187.tr hu218)))) (by omega) (((hp119.un hO120 hO155 hv155 (by decide)).un hO155 hO187 hv187 (by decide)).un hO187 hO218 hv218 (by decide)) (by omega)
                exact L80 _ (-60) (u34) _ hO69 un.rf (by omega) (px43.un hO42 hO69 hv69 (by decide)) (Nat.lt_succ_self _)
              · have t232 := ne_no c76
                refine ur_go rfl ?_
                refine ur_incV (fun z => [some (.inr (.inr (some 69))), some (.inl a1), some (.inl z), u33, u34]) rfl rfl (fun _ => rfl) (fun x233 e234 => ?_)
                have t235 := ti_add e234 (by omega) (by omega)
                refine ur_go rfl ?_
                have t236 := fI_of ((d67 _ (by decide)).trans hc47) p49
                obtain ⟨f237, p238, t239⟩ := mf_38 hO69 ((d67 _ (by decide)).trans hc47)
                have t240 := fI_of ((d67 _ (by decide)).trans hc47) p238
                have z241 := any_r x233
                exact ih37 x233 _ _ _ hO69 (hu42.tr hu69) (by omega) (px43.un hO42 hO69 hv69 (by decide)) (by omega)
        exact L35 _ 0 (u12) (none) _ hO16 un.rf (by omega) px17 (Nat.lt_succ_self _)
      · have t242 := le_no c30
        refine ur_ldA rfl rfl ?_
        refine ur_get rfl hc21 (mf_55 hO16 hc21) ?_
        refine ur_ldI rfl rfl ?_
        refine ur_push rfl ?_
        obtain ⟨xs244, hc243, hn245, he246⟩ := hO16.int (hO16.fix 105 (by decide) rfl)
        refine ur_astV (W := [105]) (m := 150) rfl hO16 hc243 (by decide) hn245 (by omega) (any_r _) (Or.inr (Or.inr (wid_fix (by decide) (by decide)))) (fun h249 hO249 hv249 d247 hc248 => ?_)
        have hu249 : un [80, 81, 105, 106] h16 h249 := hv249.mono (by decide)
        refine ur_ldA rfl rfl ?_
        refine ur_get rfl ((d247 _ (by decide)).trans hc21) (mf_39 hO249 ((d247 _ (by decide)).trans hc21)) ?_
        refine ur_ldI rfl rfl ?_
        obtain ⟨xs251, hc250, hn252, he253⟩ := hO249.int (hO249.fix 96 (by decide) rfl)
        refine ur_aldV rfl hc250 hn252 (by omega) (fun x254 hx255 => ?_)
        have t256 : 0 ≤ x254.toInt ∧ x254.toInt ≤ 7 := he253 _ _ hx255
        refine ur_push rfl ?_
        refine ur_if2 rfl (fun c257 => ?_) (fun c257 => ?_)
        · have t258 := ne_to c257
          refine ur_push rfl ?_
          refine ur_svIk [some (.inr (.inr (some 69))), some (.inl a1), some (.inl x11), some (.inl 0), none] rfl rfl ?_
          obtain ⟨f263, p264, t265⟩ := mf_4 hO249 ((d247 _ (by decide)).trans hc21)
          have t266 := fI_of ((d247 _ (by decide)).trans hc21) p264
          have t267 := fI_of ((d247 _ (by decide)).trans hc21) p23
          have L260 : ∀ (m261 : Nat) (x259 : Int32) (h268 : aH) , OK h268 → un [80, 81, 105, 106] h249 h268 → ((0 ≤ x259.toInt ∧ x259.toInt ≤ 2147483647)) → (SKm h268) → ((2147483648 - x259.toInt).toNat) < m261 → uRun oX12_findStory (uCall Mt (d + 8)) Q 32 ([some (.inr (.inr (some 69))), some (.inl a1), some (.inl x11), some (.inl x259), none], [], h268, kc, ks) := by
            intro m261
            induction m261 with
            | zero => intro x259 h268 hO268 hu268 iv270 px269 mm271; omega
            | succ m261 ih262 =>
              intro x259 h268 hO268 hu268 iv270 px269 mm271
              refine ur_ldI rfl rfl ?_
              refine ur_ldA rfl rfl ?_
              obtain ⟨fs272, hc273⟩ := hO268.mod
              obtain ⟨f274, p275, t276⟩ := mf_4 hO268 hc273
              have t277 := fI_of hc273 p275
              have t278 := fI_keep (k := 4) hO0 hO268 (hu16.tr (hu249.tr hu268)) rfl (by decide)
              have t279 := fI_keep (k := 38) hO0 hO268 (hu16.tr (hu249.tr hu268)) rfl (by decide)
              refine ur_get rfl hc273 p275 ?_
              have z280 := any_r x259
              have z281 := any_r f274
              refine ur_if2 rfl (fun c282 => ?_) (fun c282 => ?_)
              · have t283 := le_to c282
                refine ur_incV (fun z => [some (.inr (.inr (some 69))), some (.inl a1), some (.inl z), some (.inl x259), none]) rfl rfl (fun _ => rfl) (fun x284 e285 => ?_)
                have t286 := ti_add e285 (by omega) (by omega)
                refine ur_go rfl ?_
                obtain ⟨f287, p288, t289⟩ := mf_38 hO268 hc273
                have t290 := fI_of hc273 p288
                have z291 := any_r x284
                exact ih15 x284 _ _ hO268 (hu16.tr (hu249.tr hu268)) (by omega) px269 (by omega)
              · have t292 := le_no c282
                refine ur_ldI rfl rfl ?_
                refine ur_ldI rfl rfl ?_
                refine ur_binV rfl (fun x293 e294 => ?_)
                have z295 := any_r a1
                refine ur_push rfl ?_
                refine ur_binV rfl (fun x296 e297 => ?_)
                have t298 := and_1 e297
                refine ur_push rfl ?_
                refine ur_if2 rfl (fun c299 => ?_) (fun c299 => ?_)
                · have t300 := ne_to c299
                  refine ur_incV (fun z => [some (.inr (.inr (some 69))), some (.inl a1), some (.inl x11), some (.inl z), none]) rfl rfl (fun _ => rfl) (fun x301 e302 => ?_)
                  have t303 := ti_add e302 (by omega) (by omega)
                  refine ur_go rfl ?_
                  obtain ⟨f304, p305, t306⟩ := mf_38 hO268 hc273
                  have t307 := fI_of hc273 p305
                  have z308 := any_r x301
                  exact ih262 x301 _ hO268 hu268 (by omega) px269 (by omega)
                · have t309 := ne_no c299
                  refine ur_ldA rfl rfl ?_
                  refine ur_ldI rfl rfl ?_
                  refine ur_ldI rfl rfl ?_
                  refine ur_push rfl ?_
                  obtain ⟨f310, p311, t312⟩ := mf_38 hO268 hc273
                  have t313 := fI_of hc273 p311
                  refine ur_inl rfl (rcv_of hc273) (Nat.le_of_ble_eq_true rfl) (Nat.le_of_ble_eq_true rfl) (sd_X12_whoseBy hO268 (hX0.un hO0 hO268 (hu16.tr (hu249.tr hu268)) (by decide)) _ (by show 0 ≤ x11.toInt ∧ x11.toInt ≤ 149; omega) _ (by show 0 ≤ x259.toInt ∧ x259.toInt ≤ 11; omega) _ (by show -400 ≤ (0 : Int32).toInt ∧ (0 : Int32).toInt ≤ 400; omega) px269 (by omega) (by omega) (fun w314 h317 hr315 hO317 hv317 hp316 => ?_))
                  have hu317 : un [80, 81, 105, 106] h268 h317 := hv317.mono (by decide)
                  obtain ⟨x318, rfl, t319⟩ := hr315
                  show uRun _ (uCall Mt _) _ 56 (_, [(.inl x318)], _, _, _)
                  refine ur_push rfl ?_
                  refine ur_if2 rfl (fun c320 => ?_) (fun c320 => ?_)
                  · have t321 := lt_to c320
                    refine ur_incV (fun z => [some (.inr (.inr (some 69))), some (.inl a1), some (.inl x11), some (.inl z), none]) rfl rfl (fun _ => rfl) (fun x322 e323 => ?_)
                    have t324 := ti_add e323 (by omega) (by omega)
                    refine ur_go rfl ?_
                    obtain ⟨fs325, hc326⟩ := hO317.mod
                    obtain ⟨f327, p328, t329⟩ := mf_4 hO317 hc326
                    have t330 := fI_of hc326 p328
                    obtain ⟨f331, p332, t333⟩ := mf_38 hO317 hc326
                    have t334 := fI_of hc326 p332
                    have z335 := any_r x322
                    exact ih262 x322 _ hO317 (hu268.tr hu317) (by omega) hp316 (by omega)
                  · have t336 := lt_no c320
                    refine ur_ldA rfl rfl ?_
                    obtain ⟨fs337, hc338⟩ := hO317.mod
                    refine ur_get rfl hc338 (mf_55 hO317 hc338) ?_
                    refine ur_ldI rfl rfl ?_
                    refine ur_dup2 rfl rfl rfl ?_
                    obtain ⟨xs340, hc339, hn341, he342⟩ := hO317.int (hO317.fix 105 (by decide) rfl)
                    refine ur_aldV rfl hc339 hn341 (by omega) (fun x343 hx344 => ?_)
                    refine ur_push rfl ?_
                    refine ur_ldI rfl rfl ?_
                    refine ur_binV rfl (fun x345 e346 => ?_)
                    refine ur_binV rfl (fun x347 e348 => ?_)
                    refine ur_astV (W := [105]) (m := 150) rfl hO317 hc339 (by decide) hn341 (by omega) (any_r _) (Or.inr (Or.inr (wid_fix (by decide) (by decide)))) (fun h351 hO351 hv351 d349 hc350 => ?_)
                    have hu351 : un [80, 81, 105, 106] h317 h351 := hv351.mono (by decide)
                    refine ur_incV (fun z => [some (.inr (.inr (some 69))), some (.inl a1), some (.inl x11), some (.inl z), none]) rfl rfl (fun _ => rfl) (fun x352 e353 => ?_)
                    have t354 := ti_add e353 (by omega) (by omega)
                    refine ur_go rfl ?_
                    obtain ⟨f355, p356, t357⟩ := mf_4 hO351 ((d349 _ (by decide)).trans hc338)
                    have t358 := fI_of ((d349 _ (by decide)).trans hc338) p356
                    obtain ⟨f359, p360, t361⟩ := mf_38 hO351 ((d349 _ (by decide)).trans hc338)
                    have t362 := fI_of ((d349 _ (by decide)).trans hc338) p360
                    have z363 := any_r x352
                    exact ih262 x352 _ hO351 (hu268.tr (hu317.tr hu351)) (by omega) (hp316.un hO317 hO351 hv351 (by decide)) (by omega)
          exact L260 _ 0 _ hO249 un.rf (by omega) (px17.un hO16 hO249 hv249 (by decide)) (Nat.lt_succ_self _)
        · have t364 := ne_no c257
          refine ur_go rfl ?_
          refine ur_incV (fun z => [some (.inr (.inr (some 69))), some (.inl a1), some (.inl z), u12, none]) rfl rfl (fun _ => rfl) (fun x365 e366 => ?_)
          have t367 := ti_add e366 (by omega) (by omega)
          refine ur_go rfl ?_
          obtain ⟨f368, p369, t370⟩ := mf_4 hO249 ((d247 _ (by decide)).trans hc21)
          have t371 := fI_of ((d247 _ (by decide)).trans hc21) p369
          have t372 := fI_of ((d247 _ (by decide)).trans hc21) p23
          have z373 := any_r x365
          exact ih15 x365 _ _ hO249 (hu16.tr hu249) (by omega) (px17.un hO16 hO249 hv249 (by decide)) (by omega)
  exact L13 _ 0 (none) _ hO0 un.rf (by omega) pre0 (Nat.lt_succ_self _)

set_option maxRecDepth 20000 in
set_option maxHeartbeats 4000000 in
theorem sd_X12_judge {d kc ks : Nat} {h0 : aH} {Q : Option aV → aH → Prop} (hO0 : OK h0) (hX0 : SX h0) (a1 : Int32) (pre0 : SKm h0) (hQ : ∀ r h', (∃ x, r = some (.inl x)) → OK h' → un [80, 81, 105, 106] h0 h' → (SKm h') → Q r h') : uCall Mt (d + 10) 264 [(.inr (.inr (some 69))), (.inl a1)] h0 kc ks Q := by
  have l_m2000000000 : ((-2000000000) : Int32).toInt = -2000000000 := by decide
  have l_0 : ((0) : Int32).toInt = 0 := by decide
  refine uc_ink [some (.inr (.inr (some 69))), some (.inl a1)] mt_264 (Nat.le_of_ble_eq_true rfl) rfl ?_
  obtain ⟨fs1, hc2⟩ := hO0.mod
  obtain ⟨f3, p4, t5⟩ := mf_4 hO0 hc2
  have t6 := fI_of hc2 p4
  obtain ⟨f7, p8, t9⟩ := mf_38 hO0 hc2
  have t10 := fI_of hc2 p8
  refine ur_ldI rfl rfl ?_
  refine ur_if1 rfl (fun c11 => ?_) (fun c11 => ?_)
  · have t12 := lt_to c11
    refine ur_push rfl ?_
    exact ur_ret rfl rfl (hQ _ _ ⟨_, rfl⟩ hO0 un.rf pre0)
  · have t13 := lt_no c11
    refine ur_ldI rfl rfl ?_
    refine ur_ldA rfl rfl ?_
    refine ur_get rfl hc2 p4 ?_
    refine ur_binV rfl (fun x14 e15 => ?_)
    have z16 := any_r a1
    have z17 := any_r f3
    refine ur_if1 rfl (fun c18 => ?_) (fun c18 => ?_)
    · have t19 := eq_to c18
      refine ur_ldA rfl rfl ?_
      refine ur_ldI rfl rfl ?_
      refine ur_inl rfl (rcv_of hc2) (Nat.le_of_ble_eq_true rfl) (Nat.le_of_ble_eq_true rfl) (sd_X12_findStory hO0 hX0 _ pre0 (fun w20 h23 hr21 hO23 hv23 hp22 => ?_))
      have hu23 := hv23
      subst hr21
      show uRun _ (uCall Mt _) _ 21 (_, [], _, _, _)
      refine ur_ldA rfl rfl ?_
      refine ur_ldI rfl rfl ?_
      obtain ⟨fs24, hc25⟩ := hO23.mod
      have t26 := fI_keep (k := 4) hO0 hO23 hu23 rfl (by decide)
      have t27 := fI_keep (k := 38) hO0 hO23 hu23 rfl (by decide)
      refine ur_inl rfl (rcv_of hc25) (Nat.le_of_ble_eq_true rfl) (Nat.le_of_ble_eq_true rfl) (sf_X12_worthOf hO23 _ (fun w28 hr29 => ?_))
      obtain ⟨x30, rfl⟩ := hr29
      show uRun _ (uCall Mt _) _ 26 (_, [(.inl x30)], _, _, _)
      obtain ⟨f31, p32, t33⟩ := mf_4 hO23 hc25
      have t34 := fI_of hc25 p32
      obtain ⟨f35, p36, t37⟩ := mf_38 hO23 hc25
      have t38 := fI_of hc25 p36
      exact ur_ret rfl rfl (hQ _ _ ⟨_, rfl⟩ hO23 hu23 hp22)
    · have t39 := eq_no c18
      refine ur_push rfl ?_
      exact ur_ret rfl rfl (hQ _ _ ⟨_, rfl⟩ hO0 un.rf pre0)

set_option maxRecDepth 20000 in
set_option maxHeartbeats 4000000 in
theorem sd_X12_best {d kc ks : Nat} {h0 : aH} {Q : Option aV → aH → Prop} (hO0 : OK h0) (hX0 : SX h0) (a1 : Int32) (pre0 : SKm h0) (hQ : ∀ r h', (∃ x, r = some (.inl x)) → OK h' → un [80, 81, 105, 106] h0 h' → (SKm h') → Q r h') : uCall Mt (d + 10) 266 [(.inr (.inr (some 69))), (.inl a1)] h0 kc ks Q := by
  have l_m2000000000 : ((-2000000000) : Int32).toInt = -2000000000 := by decide
  have l_0 : ((0) : Int32).toInt = 0 := by decide
  have l_1 : ((1) : Int32).toInt = 1 := by decide
  have l_6 : ((6) : Int32).toInt = 6 := by decide
  refine uc_ink [some (.inr (.inr (some 69))), some (.inl a1), none, none, none, none, none] mt_266 (Nat.le_of_ble_eq_true rfl) rfl ?_
  obtain ⟨fs1, hc2⟩ := hO0.mod
  obtain ⟨f3, p4, t5⟩ := mf_4 hO0 hc2
  have t6 := fI_of hc2 p4
  obtain ⟨f7, p8, t9⟩ := mf_38 hO0 hc2
  have t10 := fI_of hc2 p8
  refine ur_ldI rfl rfl ?_
  refine ur_push rfl ?_
  refine ur_push rfl ?_
  refine ur_callv rfl rfl (Nat.le_of_ble_eq_true rfl) (Nat.le_of_ble_eq_true rfl) rfl (sp_in _ _ _ _ _) ?_
  refine ur_neB rfl (fun c13 => ?_) (fun c13 => ?_)
  · have t14 := wi_toL c13 l_0 l_1
    refine ur_ldA rfl rfl ?_
    refine ur_get rfl hc2 p4 ?_
    refine ur_push rfl ?_
    refine ur_if2 rfl (fun c15 => ?_) (fun c15 => ?_)
    · have t16 := le_to c15
      refine ur_push rfl ?_
      refine ur_svIk [some (.inr (.inr (some 69))), some (.inl a1), some (.inl 6), none, none, none, none] rfl rfl ?_
      refine ur_ldA rfl rfl ?_
      refine ur_push rfl ?_
      refine ur_ldI rfl rfl ?_
      refine ur_binV rfl (fun x17 e18 => ?_)
      refine ur_push rfl ?_
      refine ur_binV rfl (fun x19 e20 => ?_)
      have z21 := any_r x17
      refine ur_inl rfl (rcv_of hc2) (Nat.le_of_ble_eq_true rfl) (Nat.le_of_ble_eq_true rfl) (sd_X12_findStory hO0 hX0 _ pre0 (fun w22 h25 hr23 hO25 hv25 hp24 => ?_))
      have hu25 := hv25
      subst hr23
      show uRun _ (uCall Mt _) _ 40 (_, [], _, _, _)
      refine ur_push rfl ?_
      refine ur_svIk [some (.inr (.inr (some 69))), some (.inl a1), some (.inl 6), some (.inl 0), none, none, none] rfl rfl ?_
      refine ur_push rfl ?_
      refine ur_svIk [some (.inr (.inr (some 69))), some (.inl a1), some (.inl 6), some (.inl 0), some (.inl 0), none, none] rfl rfl ?_
      refine ur_push rfl ?_
      refine ur_svIk [some (.inr (.inr (some 69))), some (.inl a1), some (.inl 6), some (.inl 0), some (.inl 0), some (.inl 1), none] rfl rfl ?_
      obtain ⟨fs33, hc34⟩ := hO25.mod
      obtain ⟨f35, p36, t37⟩ := mf_4 hO25 hc34
      have t38 := fI_of hc34 p36
      obtain ⟨f39, p40, t41⟩ := mf_38 hO25 hc34
      have t42 := fI_of hc34 p40
      have L30 : ∀ (m31 : Nat) (x26 : Int32) (x27 : Int32) (x28 : Int32) (u29 : Option aV) , ((1 ≤ x28.toInt ∧ x28.toInt ≤ 2147483647)) → ((2147483648 - x28.toInt).toNat) < m31 → uRun oX12_best (uCall Mt (d + 9)) Q 48 ([some (.inr (.inr (some 69))), some (.inl a1), some (.inl 6), some (.inl x26), some (.inl x27), some (.inl x28), u29], [], h25, kc, ks) := by
        intro m31
        induction m31 with
        | zero => intro x26 x27 x28 u29 iv43 mm44; omega
        | succ m31 ih32 =>
          intro x26 x27 x28 u29 iv43 mm44
          refine ur_ldI rfl rfl ?_
          refine ur_push rfl ?_
          refine ur_ldI rfl rfl ?_
          refine ur_binV rfl (fun x45 e46 => ?_)
          have z47 := any_r x28
          have z48 := any_r x45
          refine ur_if2 rfl (fun c49 => ?_) (fun c49 => ?_)
          · have t50 := le_to c49
            refine ur_ldI rfl rfl ?_
            refine ur_if1 rfl (fun c51 => ?_) (fun c51 => ?_)
            · have t52 := ne_to c51
              refine ur_ldI rfl rfl ?_
              have t53 := fI_keep (k := 4) hO0 hO25 hu25 rfl (by decide)
              have t54 := fI_keep (k := 38) hO0 hO25 hu25 rfl (by decide)
              exact ur_ret rfl rfl (hQ _ _ ⟨_, rfl⟩ hO25 hu25 hp24)
            · have t55 := ne_no c51
              refine ur_ldI rfl rfl ?_
              refine ur_go rfl ?_
              have t56 := fI_keep (k := 4) hO0 hO25 hu25 rfl (by decide)
              have t57 := fI_keep (k := 38) hO0 hO25 hu25 rfl (by decide)
              exact ur_ret rfl rfl (hQ _ _ ⟨_, rfl⟩ hO25 hu25 hp24)
          · have t58 := le_no c49
            refine ur_ldA rfl rfl ?_
            refine ur_ldI rfl rfl ?_
            have t59 := fI_keep (k := 4) hO0 hO25 hu25 rfl (by decide)
            have t60 := fI_keep (k := 38) hO0 hO25 hu25 rfl (by decide)
            refine ur_inl rfl (rcv_of hc34) (Nat.le_of_ble_eq_true rfl) (Nat.le_of_ble_eq_true rfl) (sf_X12_worthOf hO25 _ (fun w61 hr62 => ?_))
            obtain ⟨x63, rfl⟩ := hr62
            show uRun _ (uCall Mt _) _ 62 (_, [(.inl x63)], _, _, _)
            refine ur_svIk [some (.inr (.inr (some 69))), some (.inl a1), some (.inl 6), some (.inl x26), some (.inl x27), some (.inl x28), some (.inl x63)] rfl rfl ?_
            refine ur_ldI rfl rfl ?_
            refine ur_ldI rfl rfl ?_
            have z64 := any_r x63
            have z65 := any_r x27
            refine ur_if2 rfl (fun c66 => ?_) (fun c66 => ?_)
            · have t67 := lt_to c66
              refine ur_incV (fun z => [some (.inr (.inr (some 69))), some (.inl a1), some (.inl 6), some (.inl x26), some (.inl x27), some (.inl z), some (.inl x63)]) rfl rfl (fun _ => rfl) (fun x68 e69 => ?_)
              have t70 := ti_add e69 (by omega) (by omega)
              refine ur_go rfl ?_
              have z71 := any_r x68
              exact ih32 x26 x27 x68 _ (by omega) (by omega)
            · have t72 := lt_no c66
              refine ur_ldI rfl rfl ?_
              refine ur_ldI rfl rfl ?_
              refine ur_if2 rfl (fun c73 => ?_) (fun c73 => ?_)
              · have t74 := ne_to c73
                refine ur_ldI rfl rfl ?_
                refine ur_svIk [some (.inr (.inr (some 69))), some (.inl a1), some (.inl 6), some (.inl x28), some (.inl x27), some (.inl x28), some (.inl x63)] rfl rfl ?_
                refine ur_ldI rfl rfl ?_
                refine ur_svIk [some (.inr (.inr (some 69))), some (.inl a1), some (.inl 6), some (.inl x28), some (.inl x63), some (.inl x28), some (.inl x63)] rfl rfl ?_
                refine ur_incV (fun z => [some (.inr (.inr (some 69))), some (.inl a1), some (.inl 6), some (.inl x28), some (.inl x63), some (.inl z), some (.inl x63)]) rfl rfl (fun _ => rfl) (fun x75 e76 => ?_)
                have t77 := ti_add e76 (by omega) (by omega)
                refine ur_go rfl ?_
                have z78 := any_r x75
                exact ih32 x28 x63 x75 _ (by omega) (by omega)
              · have t79 := ne_no c73
                refine ur_ldI rfl rfl ?_
                refine ur_inl rfl rfl (Nat.le_of_ble_eq_true rfl) (Nat.le_of_ble_eq_true rfl) (sf_X12_bitsOf _ (fun w80 hr81 => ?_))
                obtain ⟨x82, rfl⟩ := hr81
                show uRun _ (uCall Mt _) _ 83 (_, [(.inl x82)], _, _, _)
                refine ur_ldI rfl rfl ?_
                refine ur_inl rfl rfl (Nat.le_of_ble_eq_true rfl) (Nat.le_of_ble_eq_true rfl) (sf_X12_bitsOf _ (fun w83 hr84 => ?_))
                obtain ⟨x85, rfl⟩ := hr84
                show uRun _ (uCall Mt _) _ 87 (_, [(.inl x85), (.inl x82)], _, _, _)
                have z86 := any_r x82
                have z87 := any_r x85
                refine ur_if2 rfl (fun c88 => ?_) (fun c88 => ?_)
                · have t89 := lt_to c88
                  refine ur_ldI rfl rfl ?_
                  refine ur_svIk [some (.inr (.inr (some 69))), some (.inl a1), some (.inl 6), some (.inl x28), some (.inl x27), some (.inl x28), some (.inl x63)] rfl rfl ?_
                  refine ur_ldI rfl rfl ?_
                  refine ur_svIk [some (.inr (.inr (some 69))), some (.inl a1), some (.inl 6), some (.inl x28), some (.inl x63), some (.inl x28), some (.inl x63)] rfl rfl ?_
                  refine ur_incV (fun z => [some (.inr (.inr (some 69))), some (.inl a1), some (.inl 6), some (.inl x28), some (.inl x63), some (.inl z), some (.inl x63)]) rfl rfl (fun _ => rfl) (fun x90 e91 => ?_)
                  have t92 := ti_add e91 (by omega) (by omega)
                  refine ur_go rfl ?_
                  have z93 := any_r x90
                  exact ih32 x28 x63 x90 _ (by omega) (by omega)
                · have t94 := lt_no c88
                  refine ur_go rfl ?_
                  refine ur_incV (fun z => [some (.inr (.inr (some 69))), some (.inl a1), some (.inl 6), some (.inl x26), some (.inl x27), some (.inl z), some (.inl x63)]) rfl rfl (fun _ => rfl) (fun x95 e96 => ?_)
                  have t97 := ti_add e96 (by omega) (by omega)
                  refine ur_go rfl ?_
                  have z98 := any_r x95
                  exact ih32 x26 x27 x95 _ (by omega) (by omega)
      exact L30 _ 0 0 1 (none) (by omega) (Nat.lt_succ_self _)
    · have t99 := le_no c15
      refine ur_ldA rfl rfl ?_
      refine ur_get rfl hc2 p4 ?_
      refine ur_go rfl ?_
      refine ur_svIk [some (.inr (.inr (some 69))), some (.inl a1), some (.inl f3), none, none, none, none] rfl rfl ?_
      refine ur_ldA rfl rfl ?_
      refine ur_push rfl ?_
      refine ur_ldI rfl rfl ?_
      refine ur_binV rfl (fun x100 e101 => ?_)
      refine ur_push rfl ?_
      refine ur_binV rfl (fun x102 e103 => ?_)
      have z104 := any_r x100
      refine ur_inl rfl (rcv_of hc2) (Nat.le_of_ble_eq_true rfl) (Nat.le_of_ble_eq_true rfl) (sd_X12_findStory hO0 hX0 _ pre0 (fun w105 h108 hr106 hO108 hv108 hp107 => ?_))
      have hu108 := hv108
      subst hr106
      show uRun _ (uCall Mt _) _ 40 (_, [], _, _, _)
      refine ur_push rfl ?_
      refine ur_svIk [some (.inr (.inr (some 69))), some (.inl a1), some (.inl f3), some (.inl 0), none, none, none] rfl rfl ?_
      refine ur_push rfl ?_
      refine ur_svIk [some (.inr (.inr (some 69))), some (.inl a1), some (.inl f3), some (.inl 0), some (.inl 0), none, none] rfl rfl ?_
      refine ur_push rfl ?_
      refine ur_svIk [some (.inr (.inr (some 69))), some (.inl a1), some (.inl f3), some (.inl 0), some (.inl 0), some (.inl 1), none] rfl rfl ?_
      obtain ⟨fs116, hc117⟩ := hO108.mod
      obtain ⟨f118, p119, t120⟩ := mf_4 hO108 hc117
      have t121 := fI_of hc117 p119
      obtain ⟨f122, p123, t124⟩ := mf_38 hO108 hc117
      have t125 := fI_of hc117 p123
      have L113 : ∀ (m114 : Nat) (x109 : Int32) (x110 : Int32) (x111 : Int32) (u112 : Option aV) , ((1 ≤ x111.toInt ∧ x111.toInt ≤ 2147483647)) → ((2147483648 - x111.toInt).toNat) < m114 → uRun oX12_best (uCall Mt (d + 9)) Q 48 ([some (.inr (.inr (some 69))), some (.inl a1), some (.inl f3), some (.inl x109), some (.inl x110), some (.inl x111), u112], [], h108, kc, ks) := by
        intro m114
        induction m114 with
        | zero => intro x109 x110 x111 u112 iv126 mm127; omega
        | succ m114 ih115 =>
          intro x109 x110 x111 u112 iv126 mm127
          refine ur_ldI rfl rfl ?_
          refine ur_push rfl ?_
          refine ur_ldI rfl rfl ?_
          refine ur_binV rfl (fun x128 e129 => ?_)
          have z130 := any_r x111
          have z131 := any_r x128
          refine ur_if2 rfl (fun c132 => ?_) (fun c132 => ?_)
          · have t133 := le_to c132
            refine ur_ldI rfl rfl ?_
            refine ur_if1 rfl (fun c134 => ?_) (fun c134 => ?_)
            · have t135 := ne_to c134
              refine ur_ldI rfl rfl ?_
              have t136 := fI_keep (k := 4) hO0 hO108 hu108 rfl (by decide)
              have t137 := fI_keep (k := 38) hO0 hO108 hu108 rfl (by decide)
              exact ur_ret rfl rfl (hQ _ _ ⟨_, rfl⟩ hO108 hu108 hp107)
            · have t138 := ne_no c134
              refine ur_ldI rfl rfl ?_
              refine ur_go rfl ?_
              have t139 := fI_keep (k := 4) hO0 hO108 hu108 rfl (by decide)
              have t140 := fI_keep (k := 38) hO0 hO108 hu108 rfl (by decide)
              exact ur_ret rfl rfl (hQ _ _ ⟨_, rfl⟩ hO108 hu108 hp107)
          · have t141 := le_no c132
            refine ur_ldA rfl rfl ?_
            refine ur_ldI rfl rfl ?_
            have t142 := fI_keep (k := 4) hO0 hO108 hu108 rfl (by decide)
            have t143 := fI_keep (k := 38) hO0 hO108 hu108 rfl (by decide)
            refine ur_inl rfl (rcv_of hc117) (Nat.le_of_ble_eq_true rfl) (Nat.le_of_ble_eq_true rfl) (sf_X12_worthOf hO108 _ (fun w144 hr145 => ?_))
            obtain ⟨x146, rfl⟩ := hr145
            show uRun _ (uCall Mt _) _ 62 (_, [(.inl x146)], _, _, _)
            refine ur_svIk [some (.inr (.inr (some 69))), some (.inl a1), some (.inl f3), some (.inl x109), some (.inl x110), some (.inl x111), some (.inl x146)] rfl rfl ?_
            refine ur_ldI rfl rfl ?_
            refine ur_ldI rfl rfl ?_
            have z147 := any_r x146
            have z148 := any_r x110
            refine ur_if2 rfl (fun c149 => ?_) (fun c149 => ?_)
            · have t150 := lt_to c149
              refine ur_incV (fun z => [some (.inr (.inr (some 69))), some (.inl a1), some (.inl f3), some (.inl x109), some (.inl x110), some (.inl z), some (.inl x146)]) rfl rfl (fun _ => rfl) (fun x151 e152 => ?_)
              have t153 := ti_add e152 (by omega) (by omega)
              refine ur_go rfl ?_
              have z154 := any_r x151
              exact ih115 x109 x110 x151 _ (by omega) (by omega)
            · have t155 := lt_no c149
              refine ur_ldI rfl rfl ?_
              refine ur_ldI rfl rfl ?_
              refine ur_if2 rfl (fun c156 => ?_) (fun c156 => ?_)
              · have t157 := ne_to c156
                refine ur_ldI rfl rfl ?_
                refine ur_svIk [some (.inr (.inr (some 69))), some (.inl a1), some (.inl f3), some (.inl x111), some (.inl x110), some (.inl x111), some (.inl x146)] rfl rfl ?_
                refine ur_ldI rfl rfl ?_
                refine ur_svIk [some (.inr (.inr (some 69))), some (.inl a1), some (.inl f3), some (.inl x111), some (.inl x146), some (.inl x111), some (.inl x146)] rfl rfl ?_
                refine ur_incV (fun z => [some (.inr (.inr (some 69))), some (.inl a1), some (.inl f3), some (.inl x111), some (.inl x146), some (.inl z), some (.inl x146)]) rfl rfl (fun _ => rfl) (fun x158 e159 => ?_)
                have t160 := ti_add e159 (by omega) (by omega)
                refine ur_go rfl ?_
                have z161 := any_r x158
                exact ih115 x111 x146 x158 _ (by omega) (by omega)
              · have t162 := ne_no c156
                refine ur_ldI rfl rfl ?_
                refine ur_inl rfl rfl (Nat.le_of_ble_eq_true rfl) (Nat.le_of_ble_eq_true rfl) (sf_X12_bitsOf _ (fun w163 hr164 => ?_))
                obtain ⟨x165, rfl⟩ := hr164
                show uRun _ (uCall Mt _) _ 83 (_, [(.inl x165)], _, _, _)
                refine ur_ldI rfl rfl ?_
                refine ur_inl rfl rfl (Nat.le_of_ble_eq_true rfl) (Nat.le_of_ble_eq_true rfl) (sf_X12_bitsOf _ (fun w166 hr167 => ?_))
                obtain ⟨x168, rfl⟩ := hr167
                show uRun _ (uCall Mt _) _ 87 (_, [(.inl x168), (.inl x165)], _, _, _)
                have z169 := any_r x165
                have z170 := any_r x168
                refine ur_if2 rfl (fun c171 => ?_) (fun c171 => ?_)
                · have t172 := lt_to c171
                  refine ur_ldI rfl rfl ?_
                  refine ur_svIk [some (.inr (.inr (some 69))), some (.inl a1), some (.inl f3), some (.inl x111), some (.inl x110), some (.inl x111), some (.inl x146)] rfl rfl ?_
                  refine ur_ldI rfl rfl ?_
                  refine ur_svIk [some (.inr (.inr (some 69))), some (.inl a1), some (.inl f3), some (.inl x111), some (.inl x146), some (.inl x111), some (.inl x146)] rfl rfl ?_
                  refine ur_incV (fun z => [some (.inr (.inr (some 69))), some (.inl a1), some (.inl f3), some (.inl x111), some (.inl x146), some (.inl z), some (.inl x146)]) rfl rfl (fun _ => rfl) (fun x173 e174 => ?_)
                  have t175 := ti_add e174 (by omega) (by omega)
                  refine ur_go rfl ?_
                  have z176 := any_r x173
                  exact ih115 x111 x146 x173 _ (by omega) (by omega)
                · have t177 := lt_no c171
                  refine ur_go rfl ?_
                  refine ur_incV (fun z => [some (.inr (.inr (some 69))), some (.inl a1), some (.inl f3), some (.inl x109), some (.inl x110), some (.inl z), some (.inl x146)]) rfl rfl (fun _ => rfl) (fun x178 e179 => ?_)
                  have t180 := ti_add e179 (by omega) (by omega)
                  refine ur_go rfl ?_
                  have z181 := any_r x178
                  exact ih115 x109 x110 x178 _ (by omega) (by omega)
      exact L113 _ 0 0 1 (none) (by omega) (Nat.lt_succ_self _)
  · have t182 := wi_noL c13 l_0 l_1
    refine ur_push rfl ?_
    exact ur_ret rfl rfl (hQ _ _ ⟨_, rfl⟩ hO0 un.rf pre0)

set_option maxRecDepth 20000 in
set_option maxHeartbeats 4000000 in
theorem sd_X12_rightBy {d kc ks : Nat} {h0 : aH} {Q : Option aV → aH → Prop} (hO0 : OK h0) (hX0 : SX h0) (a1 : Int32) (a2 : Int32) (b2 : 0 ≤ a2.toInt ∧ a2.toInt ≤ 11) (a3 : Int32) (b3 : -400 ≤ a3.toInt ∧ a3.toInt ≤ 400) (pre0 : SKm h0) (pre1 : a2.toInt < fI h0 4) (hQ : ∀ r h', (∃ x, r = some (.inl x)) → OK h' → un [80, 81] h0 h' → (SKm h') → Q r h') : uCall Mt (d + 9) 276 [(.inr (.inr (some 69))), (.inl a1), (.inl a2), (.inl a3)] h0 kc ks Q := by
  have l_0 : ((0) : Int32).toInt = 0 := by decide
  have l_1 : ((1) : Int32).toInt = 1 := by decide
  have l_3 : ((3) : Int32).toInt = 3 := by decide
  have l_60 : ((60) : Int32).toInt = 60 := by decide
  refine uc_ink [some (.inr (.inr (some 69))), some (.inl a1), some (.inl a2), some (.inl a3), none, none] mt_276 (Nat.le_of_ble_eq_true rfl) rfl ?_
  obtain ⟨fs1, hc2⟩ := hO0.mod
  obtain ⟨f3, p4, t5⟩ := mf_4 hO0 hc2
  have t6 := fI_of hc2 p4
  obtain ⟨f7, p8, t9⟩ := mf_38 hO0 hc2
  have t10 := fI_of hc2 p8
  refine ur_push rfl ?_
  refine ur_svIk [some (.inr (.inr (some 69))), some (.inl a1), some (.inl a2), some (.inl a3), some (.inl 0), none] rfl rfl ?_
  refine ur_push rfl ?_
  refine ur_svIk [some (.inr (.inr (some 69))), some (.inl a1), some (.inl a2), some (.inl a3), some (.inl 0), some (.inl 0)] rfl rfl ?_
  have L13 : ∀ (m14 : Nat) (x11 : Int32) (x12 : Int32) (h16 : aH) , OK h16 → un [80, 81] h0 h16 → ((0 ≤ x12.toInt ∧ x12.toInt ≤ 2147483647)) → (SKm h16) → ((2147483648 - x12.toInt).toNat) < m14 → uRun oX12_rightBy (uCall Mt (d + 8)) Q 6 ([some (.inr (.inr (some 69))), some (.inl a1), some (.inl a2), some (.inl a3), some (.inl x11), some (.inl x12)], [], h16, kc, ks) := by
    intro m14
    induction m14 with
    | zero => intro x11 x12 h16 hO16 hu16 iv18 px17 mm19; omega
    | succ m14 ih15 =>
      intro x11 x12 h16 hO16 hu16 iv18 px17 mm19
      refine ur_ldI rfl rfl ?_
      refine ur_ldA rfl rfl ?_
      obtain ⟨fs20, hc21⟩ := hO16.mod
      obtain ⟨f22, p23, t24⟩ := mf_38 hO16 hc21
      have t25 := fI_of hc21 p23
      have t26 := fI_keep (k := 4) hO0 hO16 hu16 rfl (by decide)
      have t27 := fI_keep (k := 38) hO0 hO16 hu16 rfl (by decide)
      refine ur_get rfl hc21 p23 ?_
      have z28 := any_r x12
      have z29 := any_r f22
      refine ur_if2 rfl (fun c30 => ?_) (fun c30 => ?_)
      · have t31 := le_to c30
        refine ur_ldI rfl rfl ?_
        obtain ⟨f32, p33, t34⟩ := mf_4 hO16 hc21
        have t35 := fI_of hc21 p33
        exact ur_ret rfl rfl (hQ _ _ ⟨_, rfl⟩ hO16 hu16 px17)
      · have t36 := le_no c30
        refine ur_ldI rfl rfl ?_
        refine ur_ldA rfl rfl ?_
        refine ur_get rfl hc21 (mf_39 hO16 hc21) ?_
        refine ur_ldI rfl rfl ?_
        obtain ⟨xs38, hc37, hn39, he40⟩ := hO16.int (hO16.fix 96 (by decide) rfl)
        refine ur_aldV rfl hc37 hn39 (by omega) (fun x41 hx42 => ?_)
        have t43 : 0 ≤ x41.toInt ∧ x41.toInt ≤ 7 := he40 _ _ hx42
        refine ur_push rfl ?_
        refine ur_if2 rfl (fun c44 => ?_) (fun c44 => ?_)
        · have t45 := eq_to c44
          refine ur_push rfl ?_
          refine ur_binV rfl (fun x46 e47 => ?_)
          have z48 := any_r x11
          have t49 := ti_add e47 (by omega) (by omega)
          refine ur_svIk [some (.inr (.inr (some 69))), some (.inl a1), some (.inl a2), some (.inl a3), some (.inl x46), some (.inl x12)] rfl rfl ?_
          refine ur_incV (fun z => [some (.inr (.inr (some 69))), some (.inl a1), some (.inl a2), some (.inl a3), some (.inl x46), some (.inl z)]) rfl rfl (fun _ => rfl) (fun x50 e51 => ?_)
          have t52 := ti_add e51 (by omega) (by omega)
          refine ur_go rfl ?_
          obtain ⟨f53, p54, t55⟩ := mf_4 hO16 hc21
          have t56 := fI_of hc21 p54
          have z57 := any_r x50
          exact ih15 x46 x50 _ hO16 hu16 (by omega) px17 (by omega)
        · have t58 := eq_no c44
          refine ur_ldA rfl rfl ?_
          refine ur_get rfl hc21 (mf_40 hO16 hc21) ?_
          refine ur_ldI rfl rfl ?_
          obtain ⟨xs60, hc59, hn61, he62⟩ := hO16.int (hO16.fix 97 (by decide) rfl)
          refine ur_aldV rfl hc59 hn61 (by omega) (fun x63 hx64 => ?_)
          have t65 : 0 ≤ x63.toInt ∧ x63.toInt ≤ 8 := he62 _ _ hx64
          refine ur_ldI rfl rfl ?_
          have z66 := any_r x63
          have z67 := any_r a1
          refine ur_if2 rfl (fun c68 => ?_) (fun c68 => ?_)
          · have t69 := ne_to c68
            refine ur_push rfl ?_
            refine ur_binV rfl (fun x70 e71 => ?_)
            have z72 := any_r x11
            have t73 := ti_add e71 (by omega) (by omega)
            refine ur_svIk [some (.inr (.inr (some 69))), some (.inl a1), some (.inl a2), some (.inl a3), some (.inl x70), some (.inl x12)] rfl rfl ?_
            refine ur_incV (fun z => [some (.inr (.inr (some 69))), some (.inl a1), some (.inl a2), some (.inl a3), some (.inl x70), some (.inl z)]) rfl rfl (fun _ => rfl) (fun x74 e75 => ?_)
            have t76 := ti_add e75 (by omega) (by omega)
            refine ur_go rfl ?_
            obtain ⟨f77, p78, t79⟩ := mf_4 hO16 hc21
            have t80 := fI_of hc21 p78
            have z81 := any_r x74
            exact ih15 x70 x74 _ hO16 hu16 (by omega) px17 (by omega)
          · have t82 := ne_no c68
            refine ur_ldA rfl rfl ?_
            refine ur_ldI rfl rfl ?_
            refine ur_ldI rfl rfl ?_
            refine ur_ldI rfl rfl ?_
            obtain ⟨f83, p84, t85⟩ := mf_4 hO16 hc21
            have t86 := fI_of hc21 p84
            refine ur_inl rfl (rcv_of hc21) (Nat.le_of_ble_eq_true rfl) (Nat.le_of_ble_eq_true rfl) (sd_X12_whoseBy hO16 (hX0.un hO0 hO16 hu16 (by decide)) _ (by show 0 ≤ x12.toInt ∧ x12.toInt ≤ 149; omega) _ (by show 0 ≤ a2.toInt ∧ a2.toInt ≤ 11; omega) _ (by show -400 ≤ a3.toInt ∧ a3.toInt ≤ 400; omega) px17 (by omega) (by omega) (fun w87 h90 hr88 hO90 hv90 hp89 => ?_))
            have hu90 := hv90
            obtain ⟨x91, rfl, t92⟩ := hr88
            show uRun _ (uCall Mt _) _ 47 (_, [(.inl x91), (.inl x11)], _, _, _)
            refine ur_push rfl ?_
            refine ur_if2 rfl (fun c93 => ?_) (fun c93 => ?_)
            · have t94 := lt_to c93
              refine ur_push rfl ?_
              refine ur_binV rfl (fun x95 e96 => ?_)
              have z97 := any_r x11
              have t98 := ti_add e96 (by omega) (by omega)
              refine ur_svIk [some (.inr (.inr (some 69))), some (.inl a1), some (.inl a2), some (.inl a3), some (.inl x95), some (.inl x12)] rfl rfl ?_
              refine ur_incV (fun z => [some (.inr (.inr (some 69))), some (.inl a1), some (.inl a2), some (.inl a3), some (.inl x95), some (.inl z)]) rfl rfl (fun _ => rfl) (fun x99 e100 => ?_)
              have t101 := ti_add e100 (by omega) (by omega)
              refine ur_go rfl ?_
              obtain ⟨fs102, hc103⟩ := hO90.mod
              obtain ⟨f104, p105, t106⟩ := mf_4 hO90 hc103
              have t107 := fI_of hc103 p105
              obtain ⟨f108, p109, t110⟩ := mf_38 hO90 hc103
              have t111 := fI_of hc103 p109
              have z112 := any_r x99
              exact ih15 x95 x99 _ hO90 (hu16.tr hu90) (by omega) hp89 (by omega)
            · have t113 := lt_no c93
              refine ur_push rfl ?_
              refine ur_go rfl ?_
              refine ur_binV rfl (fun x114 e115 => ?_)
              have z116 := any_r x11
              refine ur_svIk [some (.inr (.inr (some 69))), some (.inl a1), some (.inl a2), some (.inl a3), some (.inl x114), some (.inl x12)] rfl rfl ?_
              refine ur_incV (fun z => [some (.inr (.inr (some 69))), some (.inl a1), some (.inl a2), some (.inl a3), some (.inl x114), some (.inl z)]) rfl rfl (fun _ => rfl) (fun x117 e118 => ?_)
              have t119 := ti_add e118 (by omega) (by omega)
              refine ur_go rfl ?_
              obtain ⟨fs120, hc121⟩ := hO90.mod
              obtain ⟨f122, p123, t124⟩ := mf_4 hO90 hc121
              have t125 := fI_of hc121 p123
              obtain ⟨f126, p127, t128⟩ := mf_38 hO90 hc121
              have t129 := fI_of hc121 p127
              have z130 := any_r x117
              exact ih15 x114 x117 _ hO90 (hu16.tr hu90) (by omega) hp89 (by omega)
  exact L13 _ 0 0 _ hO0 un.rf (by omega) pre0 (Nat.lt_succ_self _)

set_option maxRecDepth 20000 in
set_option maxHeartbeats 4000000 in
theorem sd_X12_right {d kc ks : Nat} {h0 : aH} {Q : Option aV → aH → Prop} (hO0 : OK h0) (hX0 : SX h0) (a1 : Int32) (a2 : Int32) (a3 : Int32) (pre0 : SKm h0) (hQ : ∀ r h', (∃ x, r = some (.inl x)) → OK h' → un [80, 81] h0 h' → (SKm h') → Q r h') : uCall Mt (d + 10) 277 [(.inr (.inr (some 69))), (.inl a1), (.inl a2), (.inl a3)] h0 kc ks Q := by
  have l_m2000000000 : ((-2000000000) : Int32).toInt = -2000000000 := by decide
  have l_m1 : ((-1) : Int32).toInt = -1 := by decide
  have l_0 : ((0) : Int32).toInt = 0 := by decide
  have l_1 : ((1) : Int32).toInt = 1 := by decide
  have l_2 : ((2) : Int32).toInt = 2 := by decide
  have l_8 : ((8) : Int32).toInt = 8 := by decide
  have l_10 : ((10) : Int32).toInt = 10 := by decide
  have l_400 : ((400) : Int32).toInt = 400 := by decide
  refine uc_ink [some (.inr (.inr (some 69))), some (.inl a1), some (.inl a2), some (.inl a3), none, none, none, none, none] mt_277 (Nat.le_of_ble_eq_true rfl) rfl ?_
  obtain ⟨fs1, hc2⟩ := hO0.mod
  obtain ⟨f3, p4, t5⟩ := mf_4 hO0 hc2
  have t6 := fI_of hc2 p4
  obtain ⟨f7, p8, t9⟩ := mf_38 hO0 hc2
  have t10 := fI_of hc2 p8
  refine ur_ldI rfl rfl ?_
  refine ur_callv rfl rfl (Nat.le_of_ble_eq_true rfl) (Nat.le_of_ble_eq_true rfl) rfl (sq_isPpl _ _) ?_
  refine ur_eqB rfl (fun c13 => ?_) (fun c13 => ?_)
  · have t14 := wi_noL c13 l_0 l_8
    refine ur_push rfl ?_
    exact ur_ret rfl rfl (hQ _ _ ⟨_, rfl⟩ hO0 un.rf pre0)
  · have t15 := wi_toL c13 l_0 l_8
    refine ur_ldA rfl rfl ?_
    refine ur_ldI rfl rfl ?_
    refine ur_inl rfl (rcv_of hc2) (Nat.le_of_ble_eq_true rfl) (Nat.le_of_ble_eq_true rfl) (sg_isComet hO0 _ (fun w16 hr17 => ?_))
    obtain ⟨b18, rfl, t19⟩ := hr17
    show uRun _ (uCall Mt _) _ 12 (_, [(.inl (bi b18))], _, _, _)
    refine ur_eqB rfl (fun c20 => ?_) (fun c20 => ?_)
    · clear t19
      refine ur_push rfl ?_
      exact ur_ret rfl rfl (hQ _ _ ⟨_, rfl⟩ hO0 un.rf pre0)
    · have t21 := t19 c20
      clear t19
      refine ur_ldI rfl rfl ?_
      refine ur_push rfl ?_
      refine ur_push rfl ?_
      refine ur_callv rfl rfl (Nat.le_of_ble_eq_true rfl) (Nat.le_of_ble_eq_true rfl) rfl (sp_in _ _ _ _ _) ?_
      refine ur_neB rfl (fun c24 => ?_) (fun c24 => ?_)
      · have t25 := wi_toL c24 l_0 l_1
        refine ur_push rfl ?_
        refine ur_svIk [some (.inr (.inr (some 69))), some (.inl a1), some (.inl a2), some (.inl a3), some (.inl 0), none, none, none, none] rfl rfl ?_
        refine ur_ldA rfl rfl ?_
        refine ur_ldI rfl rfl ?_
        refine ur_ldI rfl rfl ?_
        refine ur_push rfl ?_
        refine ur_inl rfl (rcv_of hc2) (Nat.le_of_ble_eq_true rfl) (Nat.le_of_ble_eq_true rfl) (sd_X12_rightBy hO0 hX0 _ _ (by show 0 ≤ a2.toInt ∧ a2.toInt ≤ 11; omega) _ (by show -400 ≤ (0 : Int32).toInt ∧ (0 : Int32).toInt ≤ 400; omega) pre0 (by omega) (fun w26 h29 hr27 hO29 hv29 hp28 => ?_))
        have hu29 := hv29
        obtain ⟨x30, rfl⟩ := hr27
        show uRun _ (uCall Mt _) _ 37 (_, [(.inl x30)], _, _, _)
        refine ur_svIk [some (.inr (.inr (some 69))), some (.inl a1), some (.inl a2), some (.inl a3), some (.inl 0), some (.inl x30), none, none, none] rfl rfl ?_
        refine ur_push rfl ?_
        refine ur_svIk [some (.inr (.inr (some 69))), some (.inl a1), some (.inl a2), some (.inl a3), some (.inl 0), some (.inl x30), some (.inl 10), none, none] rfl rfl ?_
        obtain ⟨fs39, hc40⟩ := hO29.mod
        obtain ⟨f41, p42, t43⟩ := mf_4 hO29 hc40
        have t44 := fI_of hc40 p42
        obtain ⟨f45, p46, t47⟩ := mf_38 hO29 hc40
        have t48 := fI_of hc40 p46
        have L36 : ∀ (m37 : Nat) (x31 : Int32) (x32 : Int32) (x33 : Int32) (u34 : Option aV) (u35 : Option aV) (h49 : aH) , OK h49 → un [80, 81] h29 h49 → ((10 ≤ x33.toInt ∧ x33.toInt ≤ 410)) → (SKm h49) → ((500 - x33.toInt).toNat) < m37 → uRun oX12_right (uCall Mt (d + 9)) Q 43 ([some (.inr (.inr (some 69))), some (.inl a1), some (.inl a2), some (.inl a3), some (.inl x31), some (.inl x32), some (.inl x33), u34, u35], [], h49, kc, ks) := by
          intro m37
          induction m37 with
          | zero => intro x31 x32 x33 u34 u35 h49 hO49 hu49 iv51 px50 mm52; omega
          | succ m37 ih38 =>
            intro x31 x32 x33 u34 u35 h49 hO49 hu49 iv51 px50 mm52
            refine ur_ldI rfl rfl ?_
            refine ur_push rfl ?_
            refine ur_if2 rfl (fun c53 => ?_) (fun c53 => ?_)
            · have t54 := lt_to c53
              refine ur_ldI rfl rfl ?_
              refine ur_if1 rfl (fun c55 => ?_) (fun c55 => ?_)
              · have t56 := ne_to c55
                refine ur_ldI rfl rfl ?_
                obtain ⟨fs57, hc58⟩ := hO49.mod
                obtain ⟨f59, p60, t61⟩ := mf_4 hO49 hc58
                have t62 := fI_of hc58 p60
                obtain ⟨f63, p64, t65⟩ := mf_38 hO49 hc58
                have t66 := fI_of hc58 p64
                have t67 := fI_keep (k := 4) hO0 hO49 (hu29.tr hu49) rfl (by decide)
                have t68 := fI_keep (k := 38) hO0 hO49 (hu29.tr hu49) rfl (by decide)
                exact ur_ret rfl rfl (hQ _ _ ⟨_, rfl⟩ hO49 (hu29.tr hu49) px50)
              · have t69 := ne_no c55
                refine ur_ldI rfl rfl ?_
                refine ur_go rfl ?_
                obtain ⟨fs70, hc71⟩ := hO49.mod
                obtain ⟨f72, p73, t74⟩ := mf_4 hO49 hc71
                have t75 := fI_of hc71 p73
                obtain ⟨f76, p77, t78⟩ := mf_38 hO49 hc71
                have t79 := fI_of hc71 p77
                have t80 := fI_keep (k := 4) hO0 hO49 (hu29.tr hu49) rfl (by decide)
                have t81 := fI_keep (k := 38) hO0 hO49 (hu29.tr hu49) rfl (by decide)
                exact ur_ret rfl rfl (hQ _ _ ⟨_, rfl⟩ hO49 (hu29.tr hu49) px50)
            · have t82 := lt_no c53
              refine ur_push rfl ?_
              refine ur_svIk [some (.inr (.inr (some 69))), some (.inl a1), some (.inl a2), some (.inl a3), some (.inl x31), some (.inl x32), some (.inl x33), some (.inl (-1)), u35] rfl rfl ?_
              obtain ⟨fs90, hc91⟩ := hO49.mod
              obtain ⟨f92, p93, t94⟩ := mf_4 hO49 hc91
              have t95 := fI_of hc91 p93
              obtain ⟨f96, p97, t98⟩ := mf_38 hO49 hc91
              have t99 := fI_of hc91 p97
              have L87 : ∀ (m88 : Nat) (x83 : Int32) (x84 : Int32) (x85 : Int32) (u86 : Option aV) (h100 : aH) , OK h100 → un [80, 81] h49 h100 → ((-1 ≤ x85.toInt ∧ x85.toInt ≤ 3)) → (SKm h100) → ((4 - x85.toInt).toNat) < m88 → uRun oX12_right (uCall Mt (d + 9)) Q 54 ([some (.inr (.inr (some 69))), some (.inl a1), some (.inl a2), some (.inl a3), some (.inl x83), some (.inl x84), some (.inl x33), some (.inl x85), u86], [], h100, kc, ks) := by
                intro m88
                induction m88 with
                | zero => intro x83 x84 x85 u86 h100 hO100 hu100 iv102 px101 mm103; omega
                | succ m88 ih89 =>
                  intro x83 x84 x85 u86 h100 hO100 hu100 iv102 px101 mm103
                  refine ur_ldI rfl rfl ?_
                  refine ur_push rfl ?_
                  refine ur_if2 rfl (fun c104 => ?_) (fun c104 => ?_)
                  · have t105 := lt_to c104
                    refine ur_incV (fun z => [some (.inr (.inr (some 69))), some (.inl a1), some (.inl a2), some (.inl a3), some (.inl x83), some (.inl x84), some (.inl z), some (.inl x85), u86]) rfl rfl (fun _ => rfl) (fun x106 e107 => ?_)
                    have z108 := any_r x33
                    have t109 := ti_add e107 (by omega) (by omega)
                    refine ur_go rfl ?_
                    obtain ⟨fs110, hc111⟩ := hO100.mod
                    obtain ⟨f112, p113, t114⟩ := mf_4 hO100 hc111
                    have t115 := fI_of hc111 p113
                    obtain ⟨f116, p117, t118⟩ := mf_38 hO100 hc111
                    have t119 := fI_of hc111 p117
                    have z120 := any_r x106
                    exact ih38 x83 x84 x106 _ _ _ hO100 (hu49.tr hu100) (by omega) px101 (by omega)
                  · have t121 := lt_no c104
                    refine ur_ldA rfl rfl ?_
                    refine ur_ldI rfl rfl ?_
                    refine ur_ldI rfl rfl ?_
                    refine ur_ldI rfl rfl ?_
                    refine ur_ldI rfl rfl ?_
                    refine ur_binV rfl (fun x122 e123 => ?_)
                    have z124 := any_r x85
                    have z125 := any_r x33
                    have t126 := ti_mul1 e123 (by omega) (by omega)
                    obtain ⟨fs127, hc128⟩ := hO100.mod
                    obtain ⟨f129, p130, t131⟩ := mf_4 hO100 hc128
                    have t132 := fI_of hc128 p130
                    obtain ⟨f133, p134, t135⟩ := mf_38 hO100 hc128
                    have t136 := fI_of hc128 p134
                    have t137 := fI_keep (k := 4) hO0 hO100 (hu29.tr (hu49.tr hu100)) rfl (by decide)
                    have t138 := fI_keep (k := 38) hO0 hO100 (hu29.tr (hu49.tr hu100)) rfl (by decide)
                    refine ur_inl rfl (rcv_of hc128) (Nat.le_of_ble_eq_true rfl) (Nat.le_of_ble_eq_true rfl) (sd_X12_rightBy hO100 (hX0.un hO0 hO100 (hu29.tr (hu49.tr hu100)) (by decide)) _ _ (by show 0 ≤ a2.toInt ∧ a2.toInt ≤ 11; omega) _ (by show -400 ≤ x122.toInt ∧ x122.toInt ≤ 400; omega) px101 (by omega) (fun w139 h142 hr140 hO142 hv142 hp141 => ?_))
                    have hu142 := hv142
                    obtain ⟨x143, rfl⟩ := hr140
                    show uRun _ (uCall Mt _) _ 71 (_, [(.inl x143)], _, _, _)
                    refine ur_svIk [some (.inr (.inr (some 69))), some (.inl a1), some (.inl a2), some (.inl a3), some (.inl x83), some (.inl x84), some (.inl x33), some (.inl x85), some (.inl x143)] rfl rfl ?_
                    refine ur_ldI rfl rfl ?_
                    refine ur_ldI rfl rfl ?_
                    have z144 := any_r x143
                    have z145 := any_r x84
                    refine ur_if2 rfl (fun c146 => ?_) (fun c146 => ?_)
                    · have t147 := lt_to c146
                      refine ur_ldI rfl rfl ?_
                      refine ur_ldI rfl rfl ?_
                      refine ur_binV rfl (fun x148 e149 => ?_)
                      have t150 := ti_mul1 e149 (by omega) (by omega)
                      refine ur_svIk [some (.inr (.inr (some 69))), some (.inl a1), some (.inl a2), some (.inl a3), some (.inl x148), some (.inl x84), some (.inl x33), some (.inl x85), some (.inl x143)] rfl rfl ?_
                      refine ur_ldI rfl rfl ?_
                      refine ur_svIk [some (.inr (.inr (some 69))), some (.inl a1), some (.inl a2), some (.inl a3), some (.inl x148), some (.inl x143), some (.inl x33), some (.inl x85), some (.inl x143)] rfl rfl ?_
                      refine ur_incV (fun z => [some (.inr (.inr (some 69))), some (.inl a1), some (.inl a2), some (.inl a3), some (.inl x148), some (.inl x143), some (.inl x33), some (.inl z), some (.inl x143)]) rfl rfl (fun _ => rfl) (fun x151 e152 => ?_)
                      have t153 := ti_add e152 (by omega) (by omega)
                      refine ur_go rfl ?_
                      obtain ⟨fs154, hc155⟩ := hO142.mod
                      obtain ⟨f156, p157, t158⟩ := mf_4 hO142 hc155
                      have t159 := fI_of hc155 p157
                      obtain ⟨f160, p161, t162⟩ := mf_38 hO142 hc155
                      have t163 := fI_of hc155 p161
                      have z164 := any_r x151
                      exact ih89 x148 x143 x151 _ _ hO142 (hu100.tr hu142) (by omega) hp141 (by omega)
                    · have t165 := lt_no c146
                      refine ur_go rfl ?_
                      refine ur_incV (fun z => [some (.inr (.inr (some 69))), some (.inl a1), some (.inl a2), some (.inl a3), some (.inl x83), some (.inl x84), some (.inl x33), some (.inl z), some (.inl x143)]) rfl rfl (fun _ => rfl) (fun x166 e167 => ?_)
                      have t168 := ti_add e167 (by omega) (by omega)
                      refine ur_go rfl ?_
                      obtain ⟨fs169, hc170⟩ := hO142.mod
                      obtain ⟨f171, p172, t173⟩ := mf_4 hO142 hc170
                      have t174 := fI_of hc170 p172
                      obtain ⟨f175, p176, t177⟩ := mf_38 hO142 hc170
                      have t178 := fI_of hc170 p176
                      have z179 := any_r x166
                      exact ih89 x83 x84 x166 _ _ hO142 (hu100.tr hu142) (by omega) hp141 (by omega)
              exact L87 _ x31 x32 (-1) (u35) _ hO49 un.rf (by omega) px50 (Nat.lt_succ_self _)
        exact L36 _ 0 x30 10 (none) (none) _ hO29 un.rf (by omega) hp28 (Nat.lt_succ_self _)
      · have t180 := wi_noL c24 l_0 l_1
        refine ur_push rfl ?_
        exact ur_ret rfl rfl (hQ _ _ ⟨_, rfl⟩ hO0 un.rf pre0)

set_option maxRecDepth 20000 in
set_option maxHeartbeats 4000000 in
theorem sd_X12_lookOut {d kc ks : Nat} {h0 : aH} {Q : Option aV → aH → Prop} (hO0 : OK h0) (hX0 : SX h0) (a1 : Int32) (b1 : 0 ≤ a1.toInt ∧ a1.toInt ≤ 9) (a2 : Int32) (b2 : 0 ≤ a2.toInt ∧ a2.toInt ≤ 11) (a3 : Int32) (b3 : 0 ≤ a3.toInt ∧ a3.toInt ≤ 11) (pre0 : SKm h0) (pre1 : a2.toInt < fI h0 4) (pre2 : a3.toInt < fI h0 4) (hQ : ∀ r h', (r = none) → OK h' → un [80, 81, 7961, 7962] h0 h' → (SKm h') → Q r h') : uCall Mt (d + 7) 281 [(.inr (.inr (some 69))), (.inl a1), (.inl a2), (.inl a3)] h0 kc ks Q := by
  have l_m60 : ((-60) : Int32).toInt = -60 := by decide
  have l_0 : ((0) : Int32).toInt = 0 := by decide
  have l_1 : ((1) : Int32).toInt = 1 := by decide
  have l_60 : ((60) : Int32).toInt = 60 := by decide
  have l_120 : ((120) : Int32).toInt = 120 := by decide
  refine uc_ink [some (.inr (.inr (some 69))), some (.inl a1), some (.inl a2), some (.inl a3), none, none, none, none, none] mt_281 (Nat.le_of_ble_eq_true rfl) rfl ?_
  obtain ⟨fs1, hc2⟩ := hO0.mod
  obtain ⟨f3, p4, t5⟩ := mf_4 hO0 hc2
  have t6 := fI_of hc2 p4
  obtain ⟨f7, p8, t9⟩ := mf_38 hO0 hc2
  have t10 := fI_of hc2 p8
  refine ur_push rfl ?_
  refine ur_svIk [some (.inr (.inr (some 69))), some (.inl a1), some (.inl a2), some (.inl a3), some (.inl (-60)), none, none, none, none] rfl rfl ?_
  have L16 : ∀ (m17 : Nat) (x11 : Int32) (u12 : Option aV) (u13 : Option aV) (u14 : Option aV) (u15 : Option aV) (h19 : aH) , OK h19 → un [80, 81, 7961, 7962] h0 h19 → ((-60 ≤ x11.toInt ∧ x11.toInt ≤ 2147483647)) → (SKm h19) → ((2147483648 - x11.toInt).toNat) < m17 → uRun oX12_lookOut (uCall Mt (d + 6)) Q 4 ([some (.inr (.inr (some 69))), some (.inl a1), some (.inl a2), some (.inl a3), some (.inl x11), u12, u13, u14, u15], [], h19, kc, ks) := by
    intro m17
    induction m17 with
    | zero => intro x11 u12 u13 u14 u15 h19 hO19 hu19 iv21 px20 mm22; omega
    | succ m17 ih18 =>
      intro x11 u12 u13 u14 u15 h19 hO19 hu19 iv21 px20 mm22
      refine ur_ldI rfl rfl ?_
      refine ur_push rfl ?_
      refine ur_if2 rfl (fun c23 => ?_) (fun c23 => ?_)
      · have t24 := lt_to c23
        obtain ⟨fs25, hc26⟩ := hO19.mod
        obtain ⟨f27, p28, t29⟩ := mf_4 hO19 hc26
        have t30 := fI_of hc26 p28
        obtain ⟨f31, p32, t33⟩ := mf_38 hO19 hc26
        have t34 := fI_of hc26 p32
        have t35 := fI_keep (k := 4) hO0 hO19 hu19 rfl (by decide)
        have t36 := fI_keep (k := 38) hO0 hO19 hu19 rfl (by decide)
        exact ur_ret0 rfl (hQ _ _ rfl hO19 hu19 px20)
      · have t37 := lt_no c23
        refine ur_ldA rfl rfl ?_
        refine ur_ldI rfl rfl ?_
        refine ur_ldI rfl rfl ?_
        obtain ⟨fs38, hc39⟩ := hO19.mod
        obtain ⟨f40, p41, t42⟩ := mf_4 hO19 hc39
        have t43 := fI_of hc39 p41
        have t44 := fI_keep (k := 4) hO0 hO19 hu19 rfl (by decide)
        have t45 := fI_keep (k := 38) hO0 hO19 hu19 rfl (by decide)
        refine ur_inl rfl (rcv_of hc39) (Nat.le_of_ble_eq_true rfl) (Nat.le_of_ble_eq_true rfl) (sd_X12_passOf hO19 (hX0.un hO0 hO19 hu19 (by decide)) _ (by show 0 ≤ a2.toInt ∧ a2.toInt ≤ 11; omega) _ (by show -60 ≤ x11.toInt ∧ x11.toInt ≤ 60; omega) px20 (by omega) (fun w46 h49 hr47 hO49 hv49 hp48 => ?_))
        have hu49 : un [80, 81, 7961, 7962] h19 h49 := hv49.mono (by decide)
        obtain ⟨x50, rfl, f51⟩ := hr47
        show uRun _ (uCall Mt _) _ 18 (_, [(.inl x50)], _, _, _)
        refine ur_svIk [some (.inr (.inr (some 69))), some (.inl a1), some (.inl a2), some (.inl a3), some (.inl x11), some (.inl x50), u13, u14, u15] rfl rfl ?_
        refine ur_ldI rfl rfl ?_
        refine ur_if1 rfl (fun c52 => ?_) (fun c52 => ?_)
        · have t53 := le_to c52
          refine ur_ldA rfl rfl ?_
          obtain ⟨fs54, hc55⟩ := hO49.mod
          refine ur_get rfl hc55 (mf_36 hO49 hc55) ?_
          refine ur_ldI rfl rfl ?_
          obtain ⟨xs57, hc56, hn58, he59⟩ := hO49.int (hO49.fix 94 (by decide) rfl)
          refine ur_aldV rfl hc56 hn58 (by omega) (fun x60 hx61 => ?_)
          refine ur_ldI rfl rfl ?_
          refine ur_push rfl ?_
          refine ur_binV rfl (fun x62 e63 => ?_)
          have z64 := any_r x50
          have t65 := ti_sub e63 (by omega) (by omega)
          have z66 := any_r x60
          have z67 := any_r x62
          refine ur_if2 rfl (fun c68 => ?_) (fun c68 => ?_)
          · have t69 := le_to c68
            refine ur_ldA rfl rfl ?_
            refine ur_get rfl hc55 (mf_36 hO49 hc55) ?_
            refine ur_ldI rfl rfl ?_
            refine ur_aldV rfl hc56 hn58 (by omega) (fun x70 hx71 => ?_)
            obtain rfl : x60 = x70 := Option.some.inj (hx61.symm.trans hx71)
            refine ur_svIk [some (.inr (.inr (some 69))), some (.inl a1), some (.inl a2), some (.inl a3), some (.inl x11), some (.inl x50), some (.inl x60), u14, u15] rfl rfl ?_
            refine ur_ldA rfl rfl ?_
            refine ur_get rfl hc55 (mf_37 hO49 hc55) ?_
            refine ur_ldI rfl rfl ?_
            obtain ⟨xs73, hc72, hn74, he75⟩ := hO49.int (hO49.fix 95 (by decide) rfl)
            refine ur_aldV rfl hc72 hn74 (by omega) (fun x76 hx77 => ?_)
            have t78 : 0 ≤ x76.toInt ∧ x76.toInt ≤ 999999 := he75 _ _ hx77
            refine ur_ldI rfl rfl ?_
            refine ur_push rfl ?_
            refine ur_binV rfl (fun x79 e80 => ?_)
            have t81 := ti_add e80 (by omega) (by omega)
            have z82 := any_r x76
            have z83 := any_r x79
            refine ur_if2 rfl (fun c84 => ?_) (fun c84 => ?_)
            · have t85 := le_to c84
              refine ur_ldA rfl rfl ?_
              refine ur_get rfl hc55 (mf_37 hO49 hc55) ?_
              refine ur_ldI rfl rfl ?_
              refine ur_aldV rfl hc72 hn74 (by omega) (fun x86 hx87 => ?_)
              obtain rfl : x76 = x86 := Option.some.inj (hx77.symm.trans hx87)
              refine ur_svIk [some (.inr (.inr (some 69))), some (.inl a1), some (.inl a2), some (.inl a3), some (.inl x11), some (.inl x50), some (.inl x60), some (.inl x76), u15] rfl rfl ?_
              refine ur_ldI rfl rfl ?_
              refine ur_svIk [some (.inr (.inr (some 69))), some (.inl a1), some (.inl a2), some (.inl a3), some (.inl x11), some (.inl x50), some (.inl x60), some (.inl x76), some (.inl x60)] rfl rfl ?_
              obtain ⟨f92, p93, t94⟩ := mf_4 hO49 hc55
              have t95 := fI_of hc55 p93
              obtain ⟨f96, p97, t98⟩ := mf_38 hO49 hc55
              have t99 := fI_of hc55 p97
              have L89 : ∀ (m90 : Nat) (x88 : Int32) (h100 : aH) , OK h100 → un [80, 81, 7961, 7962] h49 h100 → ((-120 ≤ x88.toInt ∧ x88.toInt ≤ 2147483647)) → (SKm h100) → ((2147483648 - x88.toInt).toNat) < m90 → uRun oX12_lookOut (uCall Mt (d + 6)) Q 92 ([some (.inr (.inr (some 69))), some (.inl a1), some (.inl a2), some (.inl a3), some (.inl x11), some (.inl x50), some (.inl x60), some (.inl x76), some (.inl x88)], [], h100, kc, ks) := by
                intro m90
                induction m90 with
                | zero => intro x88 h100 hO100 hu100 iv102 px101 mm103; omega
                | succ m90 ih91 =>
                  intro x88 h100 hO100 hu100 iv102 px101 mm103
                  refine ur_ldI rfl rfl ?_
                  refine ur_ldI rfl rfl ?_
                  have z104 := any_r x88
                  refine ur_if2 rfl (fun c105 => ?_) (fun c105 => ?_)
                  · have t106 := lt_to c105
                    refine ur_incV (fun z => [some (.inr (.inr (some 69))), some (.inl a1), some (.inl a2), some (.inl a3), some (.inl z), some (.inl x50), some (.inl x60), some (.inl x76), some (.inl x88)]) rfl rfl (fun _ => rfl) (fun x107 e108 => ?_)
                    have z109 := any_r x11
                    have t110 := ti_add e108 (by omega) (by omega)
                    refine ur_go rfl ?_
                    obtain ⟨fs111, hc112⟩ := hO100.mod
                    obtain ⟨f113, p114, t115⟩ := mf_4 hO100 hc112
                    have t116 := fI_of hc112 p114
                    obtain ⟨f117, p118, t119⟩ := mf_38 hO100 hc112
                    have t120 := fI_of hc112 p118
                    have z121 := any_r x107
                    exact ih18 x107 _ _ _ _ _ hO100 (hu19.tr (hu49.tr hu100)) (by omega) px101 (by omega)
                  · have t122 := lt_no c105
                    refine ur_ldA rfl rfl ?_
                    obtain ⟨fs123, hc124⟩ := hO100.mod
                    obtain ⟨f125, p126⟩ := mf_61 hO100 hc124
                    refine ur_get rfl hc124 p126 ?_
                    refine ur_if1 rfl (fun c127 => ?_) (fun c127 => ?_)
                    · have t128 := lt_to c127
                      refine ur_ldA rfl rfl ?_
                      refine ur_ldI rfl rfl ?_
                      refine ur_ldI rfl rfl ?_
                      refine ur_ldA rfl rfl ?_
                      refine ur_get rfl hc124 (mf_35 hO100 hc124) ?_
                      refine ur_ldI rfl rfl ?_
                      obtain ⟨xs130, hc129, hn131, he132⟩ := hO100.int (hO100.fix 93 (by decide) rfl)
                      refine ur_aldV rfl hc129 hn131 (by omega) (fun x133 hx134 => ?_)
                      refine ur_ldI rfl rfl ?_
                      obtain ⟨f135, p136, t137⟩ := mf_4 hO100 hc124
                      have t138 := fI_of hc124 p136
                      have t139 := fI_keep (k := 4) hO0 hO100 (hu19.tr (hu49.tr hu100)) rfl (by decide)
                      have t140 := fI_keep (k := 38) hO0 hO100 (hu19.tr (hu49.tr hu100)) rfl (by decide)
                      refine ur_inl rfl (rcv_of hc124) (Nat.le_of_ble_eq_true rfl) (Nat.le_of_ble_eq_true rfl) (sf_X12_canSee hO100 (hX0.un hO0 hO100 (hu19.tr (hu49.tr hu100)) (by decide)) _ (by show 0 ≤ a2.toInt ∧ a2.toInt ≤ 11; omega) _ _ _ (by omega) (fun w141 h143 hr142 hO143 hv143 => ?_))
                      have hu143 : un [80, 81, 7961, 7962] h100 h143 := hv143.mono (by decide)
                      obtain ⟨b144, rfl⟩ := hr142
                      show uRun _ (uCall Mt _) _ 155 (_, [(.inl (bi b144))], _, _, _)
                      refine ur_eqB rfl (fun c145 => ?_) (fun c145 => ?_)
                      · refine ur_incV (fun z => [some (.inr (.inr (some 69))), some (.inl a1), some (.inl a2), some (.inl a3), some (.inl x11), some (.inl x50), some (.inl x60), some (.inl x76), some (.inl z)]) rfl rfl (fun _ => rfl) (fun x146 e147 => ?_)
                        have t148 := ti_add e147 (by omega) (by omega)
                        refine ur_go rfl ?_
                        obtain ⟨fs149, hc150⟩ := hO143.mod
                        obtain ⟨f151, p152, t153⟩ := mf_4 hO143 hc150
                        have t154 := fI_of hc150 p152
                        obtain ⟨f155, p156, t157⟩ := mf_38 hO143 hc150
                        have t158 := fI_of hc150 p156
                        have z159 := any_r x146
                        exact ih91 x146 _ hO143 (hu100.tr hu143) (by omega) (px101.un hO100 hO143 hv143 (by decide)) (by omega)
                      · refine ur_ldA rfl rfl ?_
                        refine ur_ldI rfl rfl ?_
                        refine ur_ldA rfl rfl ?_
                        obtain ⟨fs160, hc161⟩ := hO143.mod
                        refine ur_get rfl hc161 (mf_35 hO143 hc161) ?_
                        refine ur_ldI rfl rfl ?_
                        refine ur_aldV rfl (hv143.ka (n := 10) hc129 hn131 rfl (by decide) (wid_f (by decide)) (by decide)) hn131 (by omega) (fun x162 hx163 => ?_)
                        obtain rfl : x133 = x162 := Option.some.inj (hx134.symm.trans hx163)
                        refine ur_ldI rfl rfl ?_
                        obtain ⟨f164, p165, t166⟩ := mf_4 hO143 hc161
                        have t167 := fI_of hc161 p165
                        have t168 := fI_keep (k := 4) hO0 hO143 (hu19.tr (hu49.tr (hu100.tr hu143))) rfl (by decide)
                        have t169 := fI_keep (k := 38) hO0 hO143 (hu19.tr (hu49.tr (hu100.tr hu143))) rfl (by decide)
                        refine ur_inl rfl (rcv_of hc161) (Nat.le_of_ble_eq_true rfl) (Nat.le_of_ble_eq_true rfl) (sd_X12_seenBy hO143 (hX0.un hO0 hO143 (hu19.tr (hu49.tr (hu100.tr hu143))) (by decide)) _ (by show 0 ≤ a3.toInt ∧ a3.toInt ≤ 11; omega) _ _ (px101.un hO100 hO143 hv143 (by decide)) (by omega) (fun w170 h173 hr171 hO173 hv173 hp172 => ?_))
                        have hu173 : un [80, 81, 7961, 7962] h143 h173 := hv173.mono (by decide)
                        obtain ⟨x174, rfl, t175⟩ := hr171
                        show uRun _ (uCall Mt _) _ 171 (_, [(.inl x174)], _, _, _)
                        refine ur_push rfl ?_
                        refine ur_if2 rfl (fun c176 => ?_) (fun c176 => ?_)
                        · have t177 := lt_to c176
                          refine ur_ldA rfl rfl ?_
                          refine ur_ldI rfl rfl ?_
                          obtain ⟨fs178, hc179⟩ := hO173.mod
                          obtain ⟨f180, p181⟩ := mf_61 hO173 hc179
                          refine ur_putM (W := [7961]) rfl hO173 hc179 (by decide) rfl (ms_61 (hO173.msh hc179)) (Or.inr (by decide)) (fun h183 hO183 hv183 d182 hc184 => ?_)
                          have hu183 : un [80, 81, 7961, 7962] h173 h183 := hv183.mono (by decide)
                          refine ur_ldA rfl rfl ?_
                          refine ur_ldA rfl rfl ?_
                          refine ur_get rfl hc184 (mf_35 hO183 hc184) ?_
                          refine ur_ldI rfl rfl ?_
                          refine ur_aldV rfl ((d182 _ (by decide)).trans (hv173.ka (n := 10) (hv143.ka (n := 10) hc129 hn131 rfl (by decide) (wid_f (by decide)) (by decide)) hn131 rfl (by decide) (wid_f (by decide)) (by decide))) hn131 (by omega) (fun x185 hx186 => ?_)
                          obtain rfl : x133 = x185 := Option.some.inj (hx134.symm.trans hx186)
                          obtain ⟨f187, p188⟩ := mf_62 hO183 hc184
                          refine ur_putM (W := [7962]) rfl hO183 hc184 (by decide) rfl (ms_62 (hO183.msh hc184)) (Or.inr (by decide)) (fun h190 hO190 hv190 d189 hc191 => ?_)
                          have hu190 : un [80, 81, 7961, 7962] h183 h190 := hv190.mono (by decide)
                          refine ur_go rfl ?_
                          refine ur_incV (fun z => [some (.inr (.inr (some 69))), some (.inl a1), some (.inl a2), some (.inl a3), some (.inl z), some (.inl x50), some (.inl x60), some (.inl x76), some (.inl x88)]) rfl rfl (fun _ => rfl) (fun x192 e193 => ?_)
                          have z194 := any_r x11
                          have t195 := ti_add e193 (by omega) (by omega)
                          refine ur_go rfl ?_
                          obtain ⟨f196, p197, t198⟩ := mf_4 hO190 hc191
                          have t199 := fI_of hc191 p197
                          obtain ⟨f200, p201, t202⟩ := mf_38 hO190 hc191
                          have t203 := fI_of hc191 p201
                          have z204 := any_r x192
                          exact ih18 x192 _ _ _ _ _ hO190 (hu19.tr (hu49.tr (hu100.tr (hu143.tr (hu173.tr (hu183.tr hu190)))))) (by omega) ((hp172.un hO173 hO183 hv183 (by decide)).un hO183 hO190 hv190 (by decide)) (by omega)
                        · have t205 := lt_no c176
                          refine ur_go rfl ?_
                          refine ur_incV (fun z => [some (.inr (.inr (some 69))), some (.inl a1), some (.inl a2), some (.inl a3), some (.inl x11), some (.inl x50), some (.inl x60), some (.inl x76), some (.inl z)]) rfl rfl (fun _ => rfl) (fun x206 e207 => ?_)
                          have t208 := ti_add e207 (by omega) (by omega)
                          refine ur_go rfl ?_
                          obtain ⟨fs209, hc210⟩ := hO173.mod
                          obtain ⟨f211, p212, t213⟩ := mf_4 hO173 hc210
                          have t214 := fI_of hc210 p212
                          obtain ⟨f215, p216, t217⟩ := mf_38 hO173 hc210
                          have t218 := fI_of hc210 p216
                          have z219 := any_r x206
                          exact ih91 x206 _ hO173 (hu100.tr (hu143.tr hu173)) (by omega) hp172 (by omega)
                    · have t220 := lt_no c127
                      refine ur_ldI rfl rfl ?_
                      refine ur_ldA rfl rfl ?_
                      refine ur_get rfl hc124 p126 ?_
                      have z221 := any_r f125
                      refine ur_if2 rfl (fun c222 => ?_) (fun c222 => ?_)
                      · have t223 := lt_to c222
                        refine ur_incV (fun z => [some (.inr (.inr (some 69))), some (.inl a1), some (.inl a2), some (.inl a3), some (.inl z), some (.inl x50), some (.inl x60), some (.inl x76), some (.inl x88)]) rfl rfl (fun _ => rfl) (fun x224 e225 => ?_)
                        have z226 := any_r x11
                        have t227 := ti_add e225 (by omega) (by omega)
                        refine ur_go rfl ?_
                        obtain ⟨f228, p229, t230⟩ := mf_4 hO100 hc124
                        have t231 := fI_of hc124 p229
                        obtain ⟨f232, p233, t234⟩ := mf_38 hO100 hc124
                        have t235 := fI_of hc124 p233
                        have z236 := any_r x224
                        exact ih18 x224 _ _ _ _ _ hO100 (hu19.tr (hu49.tr hu100)) (by omega) px101 (by omega)
                      · have t237 := lt_no c222
                        refine ur_ldI rfl rfl ?_
                        refine ur_ldA rfl rfl ?_
                        refine ur_get rfl hc124 p126 ?_
                        refine ur_if2 rfl (fun c238 => ?_) (fun c238 => ?_)
                        · have t239 := ne_to c238
                          refine ur_ldA rfl rfl ?_
                          refine ur_ldI rfl rfl ?_
                          refine ur_ldI rfl rfl ?_
                          refine ur_ldA rfl rfl ?_
                          refine ur_get rfl hc124 (mf_35 hO100 hc124) ?_
                          refine ur_ldI rfl rfl ?_
                          obtain ⟨xs241, hc240, hn242, he243⟩ := hO100.int (hO100.fix 93 (by decide) rfl)
                          refine ur_aldV rfl hc240 hn242 (by omega) (fun x244 hx245 => ?_)
                          refine ur_ldI rfl rfl ?_
                          obtain ⟨f246, p247, t248⟩ := mf_4 hO100 hc124
                          have t249 := fI_of hc124 p247
                          have t250 := fI_keep (k := 4) hO0 hO100 (hu19.tr (hu49.tr hu100)) rfl (by decide)
                          have t251 := fI_keep (k := 38) hO0 hO100 (hu19.tr (hu49.tr hu100)) rfl (by decide)
                          refine ur_inl rfl (rcv_of hc124) (Nat.le_of_ble_eq_true rfl) (Nat.le_of_ble_eq_true rfl) (sf_X12_canSee hO100 (hX0.un hO0 hO100 (hu19.tr (hu49.tr hu100)) (by decide)) _ (by show 0 ≤ a2.toInt ∧ a2.toInt ≤ 11; omega) _ _ _ (by omega) (fun w252 h254 hr253 hO254 hv254 => ?_))
                          have hu254 : un [80, 81, 7961, 7962] h100 h254 := hv254.mono (by decide)
                          obtain ⟨b255, rfl⟩ := hr253
                          show uRun _ (uCall Mt _) _ 155 (_, [(.inl (bi b255))], _, _, _)
                          refine ur_eqB rfl (fun c256 => ?_) (fun c256 => ?_)
                          · refine ur_incV (fun z => [some (.inr (.inr (some 69))), some (.inl a1), some (.inl a2), some (.inl a3), some (.inl x11), some (.inl x50), some (.inl x60), some (.inl x76), some (.inl z)]) rfl rfl (fun _ => rfl) (fun x257 e258 => ?_)
                            have t259 := ti_add e258 (by omega) (by omega)
                            refine ur_go rfl ?_
                            obtain ⟨fs260, hc261⟩ := hO254.mod
                            obtain ⟨f262, p263, t264⟩ := mf_4 hO254 hc261
                            have t265 := fI_of hc261 p263
                            obtain ⟨f266, p267, t268⟩ := mf_38 hO254 hc261
                            have t269 := fI_of hc261 p267
                            have z270 := any_r x257
                            exact ih91 x257 _ hO254 (hu100.tr hu254) (by omega) (px101.un hO100 hO254 hv254 (by decide)) (by omega)
                          · refine ur_ldA rfl rfl ?_
                            refine ur_ldI rfl rfl ?_
                            refine ur_ldA rfl rfl ?_
                            obtain ⟨fs271, hc272⟩ := hO254.mod
                            refine ur_get rfl hc272 (mf_35 hO254 hc272) ?_
                            refine ur_ldI rfl rfl ?_
                            refine ur_aldV rfl (hv254.ka (n := 10) hc240 hn242 rfl (by decide) (wid_f (by decide)) (by decide)) hn242 (by omega) (fun x273 hx274 => ?_)
                            obtain rfl : x244 = x273 := Option.some.inj (hx245.symm.trans hx274)
                            refine ur_ldI rfl rfl ?_
                            obtain ⟨f275, p276, t277⟩ := mf_4 hO254 hc272
                            have t278 := fI_of hc272 p276
                            have t279 := fI_keep (k := 4) hO0 hO254 (hu19.tr (hu49.tr (hu100.tr hu254))) rfl (by decide)
                            have t280 := fI_keep (k := 38) hO0 hO254 (hu19.tr (hu49.tr (hu100.tr hu254))) rfl (by decide)
                            refine ur_inl rfl (rcv_of hc272) (Nat.le_of_ble_eq_true rfl) (Nat.le_of_ble_eq_true rfl) (sd_X12_seenBy hO254 (hX0.un hO0 hO254 (hu19.tr (hu49.tr (hu100.tr hu254))) (by decide)) _ (by show 0 ≤ a3.toInt ∧ a3.toInt ≤ 11; omega) _ _ (px101.un hO100 hO254 hv254 (by decide)) (by omega) (fun w281 h284 hr282 hO284 hv284 hp283 => ?_))
                            have hu284 : un [80, 81, 7961, 7962] h254 h284 := hv284.mono (by decide)
                            obtain ⟨x285, rfl, t286⟩ := hr282
                            show uRun _ (uCall Mt _) _ 171 (_, [(.inl x285)], _, _, _)
                            refine ur_push rfl ?_
                            refine ur_if2 rfl (fun c287 => ?_) (fun c287 => ?_)
                            · have t288 := lt_to c287
                              refine ur_ldA rfl rfl ?_
                              refine ur_ldI rfl rfl ?_
                              obtain ⟨fs289, hc290⟩ := hO284.mod
                              obtain ⟨f291, p292⟩ := mf_61 hO284 hc290
                              refine ur_putM (W := [7961]) rfl hO284 hc290 (by decide) rfl (ms_61 (hO284.msh hc290)) (Or.inr (by decide)) (fun h294 hO294 hv294 d293 hc295 => ?_)
                              have hu294 : un [80, 81, 7961, 7962] h284 h294 := hv294.mono (by decide)
                              refine ur_ldA rfl rfl ?_
                              refine ur_ldA rfl rfl ?_
                              refine ur_get rfl hc295 (mf_35 hO294 hc295) ?_
                              refine ur_ldI rfl rfl ?_
                              refine ur_aldV rfl ((d293 _ (by decide)).trans (hv284.ka (n := 10) (hv254.ka (n := 10) hc240 hn242 rfl (by decide) (wid_f (by decide)) (by decide)) hn242 rfl (by decide) (wid_f (by decide)) (by decide))) hn242 (by omega) (fun x296 hx297 => ?_)
                              obtain rfl : x244 = x296 := Option.some.inj (hx245.symm.trans hx297)
                              obtain ⟨f298, p299⟩ := mf_62 hO294 hc295
                              refine ur_putM (W := [7962]) rfl hO294 hc295 (by decide) rfl (ms_62 (hO294.msh hc295)) (Or.inr (by decide)) (fun h301 hO301 hv301 d300 hc302 => ?_)
                              have hu301 : un [80, 81, 7961, 7962] h294 h301 := hv301.mono (by decide)
                              refine ur_go rfl ?_
                              refine ur_incV (fun z => [some (.inr (.inr (some 69))), some (.inl a1), some (.inl a2), some (.inl a3), some (.inl z), some (.inl x50), some (.inl x60), some (.inl x76), some (.inl x88)]) rfl rfl (fun _ => rfl) (fun x303 e304 => ?_)
                              have z305 := any_r x11
                              have t306 := ti_add e304 (by omega) (by omega)
                              refine ur_go rfl ?_
                              obtain ⟨f307, p308, t309⟩ := mf_4 hO301 hc302
                              have t310 := fI_of hc302 p308
                              obtain ⟨f311, p312, t313⟩ := mf_38 hO301 hc302
                              have t314 := fI_of hc302 p312
                              have z315 := any_r x303
                              exact ih18 x303 _ _ _ _ _ hO301 (hu19.tr (hu49.tr (hu100.tr (hu254.tr (hu284.tr (hu294.tr hu301)))))) (by omega) ((hp283.un hO284 hO294 hv294 (by decide)).un hO294 hO301 hv301 (by decide)) (by omega)
                            · have t316 := lt_no c287
                              refine ur_go rfl ?_
                              refine ur_incV (fun z => [some (.inr (.inr (some 69))), some (.inl a1), some (.inl a2), some (.inl a3), some (.inl x11), some (.inl x50), some (.inl x60), some (.inl x76), some (.inl z)]) rfl rfl (fun _ => rfl) (fun x317 e318 => ?_)
                              have t319 := ti_add e318 (by omega) (by omega)
                              refine ur_go rfl ?_
                              obtain ⟨fs320, hc321⟩ := hO284.mod
                              obtain ⟨f322, p323, t324⟩ := mf_4 hO284 hc321
                              have t325 := fI_of hc321 p323
                              obtain ⟨f326, p327, t328⟩ := mf_38 hO284 hc321
                              have t329 := fI_of hc321 p327
                              have z330 := any_r x317
                              exact ih91 x317 _ hO284 (hu100.tr (hu254.tr hu284)) (by omega) hp283 (by omega)
                        · have t331 := ne_no c238
                          refine ur_ldA rfl rfl ?_
                          refine ur_get rfl hc124 (mf_35 hO100 hc124) ?_
                          refine ur_ldI rfl rfl ?_
                          obtain ⟨xs333, hc332, hn334, he335⟩ := hO100.int (hO100.fix 93 (by decide) rfl)
                          refine ur_aldV rfl hc332 hn334 (by omega) (fun x336 hx337 => ?_)
                          refine ur_ldA rfl rfl ?_
                          obtain ⟨f338, p339⟩ := mf_62 hO100 hc124
                          refine ur_get rfl hc124 p339 ?_
                          have z340 := any_r x336
                          have z341 := any_r f338
                          refine ur_if2 rfl (fun c342 => ?_) (fun c342 => ?_)
                          · have t343 := lt_to c342
                            refine ur_ldA rfl rfl ?_
                            refine ur_ldI rfl rfl ?_
                            refine ur_ldI rfl rfl ?_
                            refine ur_ldA rfl rfl ?_
                            refine ur_get rfl hc124 (mf_35 hO100 hc124) ?_
                            refine ur_ldI rfl rfl ?_
                            refine ur_aldV rfl hc332 hn334 (by omega) (fun x344 hx345 => ?_)
                            obtain rfl : x336 = x344 := Option.some.inj (hx337.symm.trans hx345)
                            refine ur_ldI rfl rfl ?_
                            obtain ⟨f346, p347, t348⟩ := mf_4 hO100 hc124
                            have t349 := fI_of hc124 p347
                            have t350 := fI_keep (k := 4) hO0 hO100 (hu19.tr (hu49.tr hu100)) rfl (by decide)
                            have t351 := fI_keep (k := 38) hO0 hO100 (hu19.tr (hu49.tr hu100)) rfl (by decide)
                            refine ur_inl rfl (rcv_of hc124) (Nat.le_of_ble_eq_true rfl) (Nat.le_of_ble_eq_true rfl) (sf_X12_canSee hO100 (hX0.un hO0 hO100 (hu19.tr (hu49.tr hu100)) (by decide)) _ (by show 0 ≤ a2.toInt ∧ a2.toInt ≤ 11; omega) _ _ _ (by omega) (fun w352 h354 hr353 hO354 hv354 => ?_))
                            have hu354 : un [80, 81, 7961, 7962] h100 h354 := hv354.mono (by decide)
                            obtain ⟨b355, rfl⟩ := hr353
                            show uRun _ (uCall Mt _) _ 155 (_, [(.inl (bi b355))], _, _, _)
                            refine ur_eqB rfl (fun c356 => ?_) (fun c356 => ?_)
                            · refine ur_incV (fun z => [some (.inr (.inr (some 69))), some (.inl a1), some (.inl a2), some (.inl a3), some (.inl x11), some (.inl x50), some (.inl x60), some (.inl x76), some (.inl z)]) rfl rfl (fun _ => rfl) (fun x357 e358 => ?_)
                              have t359 := ti_add e358 (by omega) (by omega)
                              refine ur_go rfl ?_
                              obtain ⟨fs360, hc361⟩ := hO354.mod
                              obtain ⟨f362, p363, t364⟩ := mf_4 hO354 hc361
                              have t365 := fI_of hc361 p363
                              obtain ⟨f366, p367, t368⟩ := mf_38 hO354 hc361
                              have t369 := fI_of hc361 p367
                              have z370 := any_r x357
                              exact ih91 x357 _ hO354 (hu100.tr hu354) (by omega) (px101.un hO100 hO354 hv354 (by decide)) (by omega)
                            · refine ur_ldA rfl rfl ?_
                              refine ur_ldI rfl rfl ?_
                              refine ur_ldA rfl rfl ?_
                              obtain ⟨fs371, hc372⟩ := hO354.mod
                              refine ur_get rfl hc372 (mf_35 hO354 hc372) ?_
                              refine ur_ldI rfl rfl ?_
                              refine ur_aldV rfl (hv354.ka (n := 10) hc332 hn334 rfl (by decide) (wid_f (by decide)) (by decide)) hn334 (by omega) (fun x373 hx374 => ?_)
                              obtain rfl : x336 = x373 := Option.some.inj (hx337.symm.trans hx374)
                              refine ur_ldI rfl rfl ?_
                              obtain ⟨f375, p376, t377⟩ := mf_4 hO354 hc372
                              have t378 := fI_of hc372 p376
                              have t379 := fI_keep (k := 4) hO0 hO354 (hu19.tr (hu49.tr (hu100.tr hu354))) rfl (by decide)
                              have t380 := fI_keep (k := 38) hO0 hO354 (hu19.tr (hu49.tr (hu100.tr hu354))) rfl (by decide)
                              refine ur_inl rfl (rcv_of hc372) (Nat.le_of_ble_eq_true rfl) (Nat.le_of_ble_eq_true rfl) (sd_X12_seenBy hO354 (hX0.un hO0 hO354 (hu19.tr (hu49.tr (hu100.tr hu354))) (by decide)) _ (by show 0 ≤ a3.toInt ∧ a3.toInt ≤ 11; omega) _ _ (px101.un hO100 hO354 hv354 (by decide)) (by omega) (fun w381 h384 hr382 hO384 hv384 hp383 => ?_))
                              have hu384 : un [80, 81, 7961, 7962] h354 h384 := hv384.mono (by decide)
                              obtain ⟨x385, rfl, t386⟩ := hr382
                              show uRun _ (uCall Mt _) _ 171 (_, [(.inl x385)], _, _, _)
                              refine ur_push rfl ?_
                              refine ur_if2 rfl (fun c387 => ?_) (fun c387 => ?_)
                              · have t388 := lt_to c387
                                refine ur_ldA rfl rfl ?_
                                refine ur_ldI rfl rfl ?_
                                obtain ⟨fs389, hc390⟩ := hO384.mod
                                obtain ⟨f391, p392⟩ := mf_61 hO384 hc390
                                refine ur_putM (W := [7961]) rfl hO384 hc390 (by decide) rfl (ms_61 (hO384.msh hc390)) (Or.inr (by decide)) (fun h394 hO394 hv394 d393 hc395 => ?_)
                                have hu394 : un [80, 81, 7961, 7962] h384 h394 := hv394.mono (by decide)
                                refine ur_ldA rfl rfl ?_
                                refine ur_ldA rfl rfl ?_
                                refine ur_get rfl hc395 (mf_35 hO394 hc395) ?_
                                refine ur_ldI rfl rfl ?_
                                refine ur_aldV rfl ((d393 _ (by decide)).trans (hv384.ka (n := 10) (hv354.ka (n := 10) hc332 hn334 rfl (by decide) (wid_f (by decide)) (by decide)) hn334 rfl (by decide) (wid_f (by decide)) (by decide))) hn334 (by omega) (fun x396 hx397 => ?_)
                                obtain rfl : x336 = x396 := Option.some.inj (hx337.symm.trans hx397)
                                obtain ⟨f398, p399⟩ := mf_62 hO394 hc395
                                refine ur_putM (W := [7962]) rfl hO394 hc395 (by decide) rfl (ms_62 (hO394.msh hc395)) (Or.inr (by decide)) (fun h401 hO401 hv401 d400 hc402 => ?_)
                                have hu401 : un [80, 81, 7961, 7962] h394 h401 := hv401.mono (by decide)
                                refine ur_go rfl ?_
                                refine ur_incV (fun z => [some (.inr (.inr (some 69))), some (.inl a1), some (.inl a2), some (.inl a3), some (.inl z), some (.inl x50), some (.inl x60), some (.inl x76), some (.inl x88)]) rfl rfl (fun _ => rfl) (fun x403 e404 => ?_)
                                have z405 := any_r x11
                                have t406 := ti_add e404 (by omega) (by omega)
                                refine ur_go rfl ?_
                                obtain ⟨f407, p408, t409⟩ := mf_4 hO401 hc402
                                have t410 := fI_of hc402 p408
                                obtain ⟨f411, p412, t413⟩ := mf_38 hO401 hc402
                                have t414 := fI_of hc402 p412
                                have z415 := any_r x403
                                exact ih18 x403 _ _ _ _ _ hO401 (hu19.tr (hu49.tr (hu100.tr (hu354.tr (hu384.tr (hu394.tr hu401)))))) (by omega) ((hp383.un hO384 hO394 hv394 (by decide)).un hO394 hO401 hv401 (by decide)) (by omega)
                              · have t416 := lt_no c387
                                refine ur_go rfl ?_
                                refine ur_incV (fun z => [some (.inr (.inr (some 69))), some (.inl a1), some (.inl a2), some (.inl a3), some (.inl x11), some (.inl x50), some (.inl x60), some (.inl x76), some (.inl z)]) rfl rfl (fun _ => rfl) (fun x417 e418 => ?_)
                                have t419 := ti_add e418 (by omega) (by omega)
                                refine ur_go rfl ?_
                                obtain ⟨fs420, hc421⟩ := hO384.mod
                                obtain ⟨f422, p423, t424⟩ := mf_4 hO384 hc421
                                have t425 := fI_of hc421 p423
                                obtain ⟨f426, p427, t428⟩ := mf_38 hO384 hc421
                                have t429 := fI_of hc421 p427
                                have z430 := any_r x417
                                exact ih91 x417 _ hO384 (hu100.tr (hu354.tr hu384)) (by omega) hp383 (by omega)
                          · have t431 := lt_no c342
                            refine ur_go rfl ?_
                            refine ur_incV (fun z => [some (.inr (.inr (some 69))), some (.inl a1), some (.inl a2), some (.inl a3), some (.inl z), some (.inl x50), some (.inl x60), some (.inl x76), some (.inl x88)]) rfl rfl (fun _ => rfl) (fun x432 e433 => ?_)
                            have z434 := any_r x11
                            have t435 := ti_add e433 (by omega) (by omega)
                            refine ur_go rfl ?_
                            obtain ⟨f436, p437, t438⟩ := mf_4 hO100 hc124
                            have t439 := fI_of hc124 p437
                            obtain ⟨f440, p441, t442⟩ := mf_38 hO100 hc124
                            have t443 := fI_of hc124 p441
                            have z444 := any_r x432
                            exact ih18 x432 _ _ _ _ _ hO100 (hu19.tr (hu49.tr hu100)) (by omega) px101 (by omega)
              exact L89 _ x60 _ hO49 un.rf (by omega) hp48 (Nat.lt_succ_self _)
            · have t445 := le_no c84
              refine ur_ldI rfl rfl ?_
              refine ur_push rfl ?_
              refine ur_binV rfl (fun x446 e447 => ?_)
              have t448 := ti_add e447 (by omega) (by omega)
              refine ur_go rfl ?_
              refine ur_svIk [some (.inr (.inr (some 69))), some (.inl a1), some (.inl a2), some (.inl a3), some (.inl x11), some (.inl x50), some (.inl x60), some (.inl x446), u15] rfl rfl ?_
              refine ur_ldI rfl rfl ?_
              refine ur_svIk [some (.inr (.inr (some 69))), some (.inl a1), some (.inl a2), some (.inl a3), some (.inl x11), some (.inl x50), some (.inl x60), some (.inl x446), some (.inl x60)] rfl rfl ?_
              obtain ⟨f453, p454, t455⟩ := mf_4 hO49 hc55
              have t456 := fI_of hc55 p454
              obtain ⟨f457, p458, t459⟩ := mf_38 hO49 hc55
              have t460 := fI_of hc55 p458
              have L450 : ∀ (m451 : Nat) (x449 : Int32) (h461 : aH) , OK h461 → un [80, 81, 7961, 7962] h49 h461 → ((-120 ≤ x449.toInt ∧ x449.toInt ≤ 2147483647)) → (SKm h461) → ((2147483648 - x449.toInt).toNat) < m451 → uRun oX12_lookOut (uCall Mt (d + 6)) Q 92 ([some (.inr (.inr (some 69))), some (.inl a1), some (.inl a2), some (.inl a3), some (.inl x11), some (.inl x50), some (.inl x60), some (.inl x446), some (.inl x449)], [], h461, kc, ks) := by
                intro m451
                induction m451 with
                | zero => intro x449 h461 hO461 hu461 iv463 px462 mm464; omega
                | succ m451 ih452 =>
                  intro x449 h461 hO461 hu461 iv463 px462 mm464
                  refine ur_ldI rfl rfl ?_
                  refine ur_ldI rfl rfl ?_
                  have z465 := any_r x449
                  have z466 := any_r x446
                  refine ur_if2 rfl (fun c467 => ?_) (fun c467 => ?_)
                  · have t468 := lt_to c467
                    refine ur_incV (fun z => [some (.inr (.inr (some 69))), some (.inl a1), some (.inl a2), some (.inl a3), some (.inl z), some (.inl x50), some (.inl x60), some (.inl x446), some (.inl x449)]) rfl rfl (fun _ => rfl) (fun x469 e470 => ?_)
                    have z471 := any_r x11
                    have t472 := ti_add e470 (by omega) (by omega)
                    refine ur_go rfl ?_
                    obtain ⟨fs473, hc474⟩ := hO461.mod
                    obtain ⟨f475, p476, t477⟩ := mf_4 hO461 hc474
                    have t478 := fI_of hc474 p476
                    obtain ⟨f479, p480, t481⟩ := mf_38 hO461 hc474
                    have t482 := fI_of hc474 p480
                    have z483 := any_r x469
                    exact ih18 x469 _ _ _ _ _ hO461 (hu19.tr (hu49.tr hu461)) (by omega) px462 (by omega)
                  · have t484 := lt_no c467
                    refine ur_ldA rfl rfl ?_
                    obtain ⟨fs485, hc486⟩ := hO461.mod
                    obtain ⟨f487, p488⟩ := mf_61 hO461 hc486
                    refine ur_get rfl hc486 p488 ?_
                    refine ur_if1 rfl (fun c489 => ?_) (fun c489 => ?_)
                    · have t490 := lt_to c489
                      refine ur_ldA rfl rfl ?_
                      refine ur_ldI rfl rfl ?_
                      refine ur_ldI rfl rfl ?_
                      refine ur_ldA rfl rfl ?_
                      refine ur_get rfl hc486 (mf_35 hO461 hc486) ?_
                      refine ur_ldI rfl rfl ?_
                      obtain ⟨xs492, hc491, hn493, he494⟩ := hO461.int (hO461.fix 93 (by decide) rfl)
                      refine ur_aldV rfl hc491 hn493 (by omega) (fun x495 hx496 => ?_)
                      refine ur_ldI rfl rfl ?_
                      obtain ⟨f497, p498, t499⟩ := mf_4 hO461 hc486
                      have t500 := fI_of hc486 p498
                      have t501 := fI_keep (k := 4) hO0 hO461 (hu19.tr (hu49.tr hu461)) rfl (by decide)
                      have t502 := fI_keep (k := 38) hO0 hO461 (hu19.tr (hu49.tr hu461)) rfl (by decide)
                      refine ur_inl rfl (rcv_of hc486) (Nat.le_of_ble_eq_true rfl) (Nat.le_of_ble_eq_true rfl) (sf_X12_canSee hO461 (hX0.un hO0 hO461 (hu19.tr (hu49.tr hu461)) (by decide)) _ (by show 0 ≤ a2.toInt ∧ a2.toInt ≤ 11; omega) _ _ _ (by omega) (fun w503 h505 hr504 hO505 hv505 => ?_))
                      have hu505 : un [80, 81, 7961, 7962] h461 h505 := hv505.mono (by decide)
                      obtain ⟨b506, rfl⟩ := hr504
                      show uRun _ (uCall Mt _) _ 155 (_, [(.inl (bi b506))], _, _, _)
                      refine ur_eqB rfl (fun c507 => ?_) (fun c507 => ?_)
                      · refine ur_incV (fun z => [some (.inr (.inr (some 69))), some (.inl a1), some (.inl a2), some (.inl a3), some (.inl x11), some (.inl x50), some (.inl x60), some (.inl x446), some (.inl z)]) rfl rfl (fun _ => rfl) (fun x508 e509 => ?_)
                        have t510 := ti_add e509 (by omega) (by omega)
                        refine ur_go rfl ?_
                        obtain ⟨fs511, hc512⟩ := hO505.mod
                        obtain ⟨f513, p514, t515⟩ := mf_4 hO505 hc512
                        have t516 := fI_of hc512 p514
                        obtain ⟨f517, p518, t519⟩ := mf_38 hO505 hc512
                        have t520 := fI_of hc512 p518
                        have z521 := any_r x508
                        exact ih452 x508 _ hO505 (hu461.tr hu505) (by omega) (px462.un hO461 hO505 hv505 (by decide)) (by omega)
                      · refine ur_ldA rfl rfl ?_
                        refine ur_ldI rfl rfl ?_
                        refine ur_ldA rfl rfl ?_
                        obtain ⟨fs522, hc523⟩ := hO505.mod
                        refine ur_get rfl hc523 (mf_35 hO505 hc523) ?_
                        refine ur_ldI rfl rfl ?_
                        refine ur_aldV rfl (hv505.ka (n := 10) hc491 hn493 rfl (by decide) (wid_f (by decide)) (by decide)) hn493 (by omega) (fun x524 hx525 => ?_)
                        obtain rfl : x495 = x524 := Option.some.inj (hx496.symm.trans hx525)
                        refine ur_ldI rfl rfl ?_
                        obtain ⟨f526, p527, t528⟩ := mf_4 hO505 hc523
                        have t529 := fI_of hc523 p527
                        have t530 := fI_keep (k := 4) hO0 hO505 (hu19.tr (hu49.tr (hu461.tr hu505))) rfl (by decide)
                        have t531 := fI_keep (k := 38) hO0 hO505 (hu19.tr (hu49.tr (hu461.tr hu505))) rfl (by decide)
                        refine ur_inl rfl (rcv_of hc523) (Nat.le_of_ble_eq_true rfl) (Nat.le_of_ble_eq_true rfl) (sd_X12_seenBy hO505 (hX0.un hO0 hO505 (hu19.tr (hu49.tr (hu461.tr hu505))) (by decide)) _ (by show 0 ≤ a3.toInt ∧ a3.toInt ≤ 11; omega) _ _ (px462.un hO461 hO505 hv505 (by decide)) (by omega) (fun w532 h535 hr533 hO535 hv535 hp534 => ?_))
                        have hu535 : un [80, 81, 7961, 7962] h505 h535 := hv535.mono (by decide)
                        obtain ⟨x536, rfl, t537⟩ := hr533
                        show uRun _ (uCall Mt _) _ 171 (_, [(.inl x536)], _, _, _)
                        refine ur_push rfl ?_
                        refine ur_if2 rfl (fun c538 => ?_) (fun c538 => ?_)
                        · have t539 := lt_to c538
                          refine ur_ldA rfl rfl ?_
                          refine ur_ldI rfl rfl ?_
                          obtain ⟨fs540, hc541⟩ := hO535.mod
                          obtain ⟨f542, p543⟩ := mf_61 hO535 hc541
                          refine ur_putM (W := [7961]) rfl hO535 hc541 (by decide) rfl (ms_61 (hO535.msh hc541)) (Or.inr (by decide)) (fun h545 hO545 hv545 d544 hc546 => ?_)
                          have hu545 : un [80, 81, 7961, 7962] h535 h545 := hv545.mono (by decide)
                          refine ur_ldA rfl rfl ?_
                          refine ur_ldA rfl rfl ?_
                          refine ur_get rfl hc546 (mf_35 hO545 hc546) ?_
                          refine ur_ldI rfl rfl ?_
                          refine ur_aldV rfl ((d544 _ (by decide)).trans (hv535.ka (n := 10) (hv505.ka (n := 10) hc491 hn493 rfl (by decide) (wid_f (by decide)) (by decide)) hn493 rfl (by decide) (wid_f (by decide)) (by decide))) hn493 (by omega) (fun x547 hx548 => ?_)
                          obtain rfl : x495 = x547 := Option.some.inj (hx496.symm.trans hx548)
                          obtain ⟨f549, p550⟩ := mf_62 hO545 hc546
                          refine ur_putM (W := [7962]) rfl hO545 hc546 (by decide) rfl (ms_62 (hO545.msh hc546)) (Or.inr (by decide)) (fun h552 hO552 hv552 d551 hc553 => ?_)
                          have hu552 : un [80, 81, 7961, 7962] h545 h552 := hv552.mono (by decide)
                          refine ur_go rfl ?_
                          refine ur_incV (fun z => [some (.inr (.inr (some 69))), some (.inl a1), some (.inl a2), some (.inl a3), some (.inl z), some (.inl x50), some (.inl x60), some (.inl x446), some (.inl x449)]) rfl rfl (fun _ => rfl) (fun x554 e555 => ?_)
                          have z556 := any_r x11
                          have t557 := ti_add e555 (by omega) (by omega)
                          refine ur_go rfl ?_
                          obtain ⟨f558, p559, t560⟩ := mf_4 hO552 hc553
                          have t561 := fI_of hc553 p559
                          obtain ⟨f562, p563, t564⟩ := mf_38 hO552 hc553
                          have t565 := fI_of hc553 p563
                          have z566 := any_r x554
                          exact ih18 x554 _ _ _ _ _ hO552 (hu19.tr (hu49.tr (hu461.tr (hu505.tr (hu535.tr (hu545.tr hu552)))))) (by omega) ((hp534.un hO535 hO545 hv545 (by decide)).un hO545 hO552 hv552 (by decide)) (by omega)
                        · have t567 := lt_no c538
                          refine ur_go rfl ?_
                          refine ur_incV (fun z => [some (.inr (.inr (some 69))), some (.inl a1), some (.inl a2), some (.inl a3), some (.inl x11), some (.inl x50), some (.inl x60), some (.inl x446), some (.inl z)]) rfl rfl (fun _ => rfl) (fun x568 e569 => ?_)
                          have t570 := ti_add e569 (by omega) (by omega)
                          refine ur_go rfl ?_
                          obtain ⟨fs571, hc572⟩ := hO535.mod
                          obtain ⟨f573, p574, t575⟩ := mf_4 hO535 hc572
                          have t576 := fI_of hc572 p574
                          obtain ⟨f577, p578, t579⟩ := mf_38 hO535 hc572
                          have t580 := fI_of hc572 p578
                          have z581 := any_r x568
                          exact ih452 x568 _ hO535 (hu461.tr (hu505.tr hu535)) (by omega) hp534 (by omega)
                    · have t582 := lt_no c489
                      refine ur_ldI rfl rfl ?_
                      refine ur_ldA rfl rfl ?_
                      refine ur_get rfl hc486 p488 ?_
                      have z583 := any_r f487
                      refine ur_if2 rfl (fun c584 => ?_) (fun c584 => ?_)
                      · have t585 := lt_to c584
                        refine ur_incV (fun z => [some (.inr (.inr (some 69))), some (.inl a1), some (.inl a2), some (.inl a3), some (.inl z), some (.inl x50), some (.inl x60), some (.inl x446), some (.inl x449)]) rfl rfl (fun _ => rfl) (fun x586 e587 => ?_)
                        have z588 := any_r x11
                        have t589 := ti_add e587 (by omega) (by omega)
                        refine ur_go rfl ?_
                        obtain ⟨f590, p591, t592⟩ := mf_4 hO461 hc486
                        have t593 := fI_of hc486 p591
                        obtain ⟨f594, p595, t596⟩ := mf_38 hO461 hc486
                        have t597 := fI_of hc486 p595
                        have z598 := any_r x586
                        exact ih18 x586 _ _ _ _ _ hO461 (hu19.tr (hu49.tr hu461)) (by omega) px462 (by omega)
                      · have t599 := lt_no c584
                        refine ur_ldI rfl rfl ?_
                        refine ur_ldA rfl rfl ?_
                        refine ur_get rfl hc486 p488 ?_
                        refine ur_if2 rfl (fun c600 => ?_) (fun c600 => ?_)
                        · have t601 := ne_to c600
                          refine ur_ldA rfl rfl ?_
                          refine ur_ldI rfl rfl ?_
                          refine ur_ldI rfl rfl ?_
                          refine ur_ldA rfl rfl ?_
                          refine ur_get rfl hc486 (mf_35 hO461 hc486) ?_
                          refine ur_ldI rfl rfl ?_
                          obtain ⟨xs603, hc602, hn604, he605⟩ := hO461.int (hO461.fix 93 (by decide) rfl)
                          refine ur_aldV rfl hc602 hn604 (by omega) (fun x606 hx607 => ?_)
                          refine ur_ldI rfl rfl ?_
                          obtain ⟨f608, p609, t610⟩ := mf_4 hO461 hc486
                          have t611 := fI_of hc486 p609
                          have t612 := fI_keep (k := 4) hO0 hO461 (hu19.tr (hu49.tr hu461)) rfl (by decide)
                          have t613 := fI_keep (k := 38) hO0 hO461 (hu19.tr (hu49.tr hu461)) rfl (by decide)
                          refine ur_inl rfl (rcv_of hc486) (Nat.le_of_ble_eq_true rfl) (Nat.le_of_ble_eq_true rfl) (sf_X12_canSee hO461 (hX0.un hO0 hO461 (hu19.tr (hu49.tr hu461)) (by decide)) _ (by show 0 ≤ a2.toInt ∧ a2.toInt ≤ 11; omega) _ _ _ (by omega) (fun w614 h616 hr615 hO616 hv616 => ?_))
                          have hu616 : un [80, 81, 7961, 7962] h461 h616 := hv616.mono (by decide)
                          obtain ⟨b617, rfl⟩ := hr615
                          show uRun _ (uCall Mt _) _ 155 (_, [(.inl (bi b617))], _, _, _)
                          refine ur_eqB rfl (fun c618 => ?_) (fun c618 => ?_)
                          · refine ur_incV (fun z => [some (.inr (.inr (some 69))), some (.inl a1), some (.inl a2), some (.inl a3), some (.inl x11), some (.inl x50), some (.inl x60), some (.inl x446), some (.inl z)]) rfl rfl (fun _ => rfl) (fun x619 e620 => ?_)
                            have t621 := ti_add e620 (by omega) (by omega)
                            refine ur_go rfl ?_
                            obtain ⟨fs622, hc623⟩ := hO616.mod
                            obtain ⟨f624, p625, t626⟩ := mf_4 hO616 hc623
                            have t627 := fI_of hc623 p625
                            obtain ⟨f628, p629, t630⟩ := mf_38 hO616 hc623
                            have t631 := fI_of hc623 p629
                            have z632 := any_r x619
                            exact ih452 x619 _ hO616 (hu461.tr hu616) (by omega) (px462.un hO461 hO616 hv616 (by decide)) (by omega)
                          · refine ur_ldA rfl rfl ?_
                            refine ur_ldI rfl rfl ?_
                            refine ur_ldA rfl rfl ?_
                            obtain ⟨fs633, hc634⟩ := hO616.mod
                            refine ur_get rfl hc634 (mf_35 hO616 hc634) ?_
                            refine ur_ldI rfl rfl ?_
                            refine ur_aldV rfl (hv616.ka (n := 10) hc602 hn604 rfl (by decide) (wid_f (by decide)) (by decide)) hn604 (by omega) (fun x635 hx636 => ?_)
                            obtain rfl : x606 = x635 := Option.some.inj (hx607.symm.trans hx636)
                            refine ur_ldI rfl rfl ?_
                            obtain ⟨f637, p638, t639⟩ := mf_4 hO616 hc634
                            have t640 := fI_of hc634 p638
                            have t641 := fI_keep (k := 4) hO0 hO616 (hu19.tr (hu49.tr (hu461.tr hu616))) rfl (by decide)
                            have t642 := fI_keep (k := 38) hO0 hO616 (hu19.tr (hu49.tr (hu461.tr hu616))) rfl (by decide)
                            refine ur_inl rfl (rcv_of hc634) (Nat.le_of_ble_eq_true rfl) (Nat.le_of_ble_eq_true rfl) (sd_X12_seenBy hO616 (hX0.un hO0 hO616 (hu19.tr (hu49.tr (hu461.tr hu616))) (by decide)) _ (by show 0 ≤ a3.toInt ∧ a3.toInt ≤ 11; omega) _ _ (px462.un hO461 hO616 hv616 (by decide)) (by omega) (fun w643 h646 hr644 hO646 hv646 hp645 => ?_))
                            have hu646 : un [80, 81, 7961, 7962] h616 h646 := hv646.mono (by decide)
                            obtain ⟨x647, rfl, t648⟩ := hr644
                            show uRun _ (uCall Mt _) _ 171 (_, [(.inl x647)], _, _, _)
                            refine ur_push rfl ?_
                            refine ur_if2 rfl (fun c649 => ?_) (fun c649 => ?_)
                            · have t650 := lt_to c649
                              refine ur_ldA rfl rfl ?_
                              refine ur_ldI rfl rfl ?_
                              obtain ⟨fs651, hc652⟩ := hO646.mod
                              obtain ⟨f653, p654⟩ := mf_61 hO646 hc652
                              refine ur_putM (W := [7961]) rfl hO646 hc652 (by decide) rfl (ms_61 (hO646.msh hc652)) (Or.inr (by decide)) (fun h656 hO656 hv656 d655 hc657 => ?_)
                              have hu656 : un [80, 81, 7961, 7962] h646 h656 := hv656.mono (by decide)
                              refine ur_ldA rfl rfl ?_
                              refine ur_ldA rfl rfl ?_
                              refine ur_get rfl hc657 (mf_35 hO656 hc657) ?_
                              refine ur_ldI rfl rfl ?_
                              refine ur_aldV rfl ((d655 _ (by decide)).trans (hv646.ka (n := 10) (hv616.ka (n := 10) hc602 hn604 rfl (by decide) (wid_f (by decide)) (by decide)) hn604 rfl (by decide) (wid_f (by decide)) (by decide))) hn604 (by omega) (fun x658 hx659 => ?_)
                              obtain rfl : x606 = x658 := Option.some.inj (hx607.symm.trans hx659)
                              obtain ⟨f660, p661⟩ := mf_62 hO656 hc657
                              refine ur_putM (W := [7962]) rfl hO656 hc657 (by decide) rfl (ms_62 (hO656.msh hc657)) (Or.inr (by decide)) (fun h663 hO663 hv663 d662 hc664 => ?_)
                              have hu663 : un [80, 81, 7961, 7962] h656 h663 := hv663.mono (by decide)
                              refine ur_go rfl ?_
                              refine ur_incV (fun z => [some (.inr (.inr (some 69))), some (.inl a1), some (.inl a2), some (.inl a3), some (.inl z), some (.inl x50), some (.inl x60), some (.inl x446), some (.inl x449)]) rfl rfl (fun _ => rfl) (fun x665 e666 => ?_)
                              have z667 := any_r x11
                              have t668 := ti_add e666 (by omega) (by omega)
                              refine ur_go rfl ?_
                              obtain ⟨f669, p670, t671⟩ := mf_4 hO663 hc664
                              have t672 := fI_of hc664 p670
                              obtain ⟨f673, p674, t675⟩ := mf_38 hO663 hc664
                              have t676 := fI_of hc664 p674
                              have z677 := any_r x665
                              exact ih18 x665 _ _ _ _ _ hO663 (hu19.tr (hu49.tr (hu461.tr (hu616.tr (hu646.tr (hu656.tr hu663)))))) (by omega) ((hp645.un hO646 hO656 hv656 (by decide)).un hO656 hO663 hv663 (by decide)) (by omega)
                            · have t678 := lt_no c649
                              refine ur_go rfl ?_
                              refine ur_incV (fun z => [some (.inr (.inr (some 69))), some (.inl a1), some (.inl a2), some (.inl a3), some (.inl x11), some (.inl x50), some (.inl x60), some (.inl x446), some (.inl z)]) rfl rfl (fun _ => rfl) (fun x679 e680 => ?_)
                              have t681 := ti_add e680 (by omega) (by omega)
                              refine ur_go rfl ?_
                              obtain ⟨fs682, hc683⟩ := hO646.mod
                              obtain ⟨f684, p685, t686⟩ := mf_4 hO646 hc683
                              have t687 := fI_of hc683 p685
                              obtain ⟨f688, p689, t690⟩ := mf_38 hO646 hc683
                              have t691 := fI_of hc683 p689
                              have z692 := any_r x679
                              exact ih452 x679 _ hO646 (hu461.tr (hu616.tr hu646)) (by omega) hp645 (by omega)
                        · have t693 := ne_no c600
                          refine ur_ldA rfl rfl ?_
                          refine ur_get rfl hc486 (mf_35 hO461 hc486) ?_
                          refine ur_ldI rfl rfl ?_
                          obtain ⟨xs695, hc694, hn696, he697⟩ := hO461.int (hO461.fix 93 (by decide) rfl)
                          refine ur_aldV rfl hc694 hn696 (by omega) (fun x698 hx699 => ?_)
                          refine ur_ldA rfl rfl ?_
                          obtain ⟨f700, p701⟩ := mf_62 hO461 hc486
                          refine ur_get rfl hc486 p701 ?_
                          have z702 := any_r x698
                          have z703 := any_r f700
                          refine ur_if2 rfl (fun c704 => ?_) (fun c704 => ?_)
                          · have t705 := lt_to c704
                            refine ur_ldA rfl rfl ?_
                            refine ur_ldI rfl rfl ?_
                            refine ur_ldI rfl rfl ?_
                            refine ur_ldA rfl rfl ?_
                            refine ur_get rfl hc486 (mf_35 hO461 hc486) ?_
                            refine ur_ldI rfl rfl ?_
                            refine ur_aldV rfl hc694 hn696 (by omega) (fun x706 hx707 => ?_)
                            obtain rfl : x698 = x706 := Option.some.inj (hx699.symm.trans hx707)
                            refine ur_ldI rfl rfl ?_
                            obtain ⟨f708, p709, t710⟩ := mf_4 hO461 hc486
                            have t711 := fI_of hc486 p709
                            have t712 := fI_keep (k := 4) hO0 hO461 (hu19.tr (hu49.tr hu461)) rfl (by decide)
                            have t713 := fI_keep (k := 38) hO0 hO461 (hu19.tr (hu49.tr hu461)) rfl (by decide)
                            refine ur_inl rfl (rcv_of hc486) (Nat.le_of_ble_eq_true rfl) (Nat.le_of_ble_eq_true rfl) (sf_X12_canSee hO461 (hX0.un hO0 hO461 (hu19.tr (hu49.tr hu461)) (by decide)) _ (by show 0 ≤ a2.toInt ∧ a2.toInt ≤ 11; omega) _ _ _ (by omega) (fun w714 h716 hr715 hO716 hv716 => ?_))
                            have hu716 : un [80, 81, 7961, 7962] h461 h716 := hv716.mono (by decide)
                            obtain ⟨b717, rfl⟩ := hr715
                            show uRun _ (uCall Mt _) _ 155 (_, [(.inl (bi b717))], _, _, _)
                            refine ur_eqB rfl (fun c718 => ?_) (fun c718 => ?_)
                            · refine ur_incV (fun z => [some (.inr (.inr (some 69))), some (.inl a1), some (.inl a2), some (.inl a3), some (.inl x11), some (.inl x50), some (.inl x60), some (.inl x446), some (.inl z)]) rfl rfl (fun _ => rfl) (fun x719 e720 => ?_)
                              have t721 := ti_add e720 (by omega) (by omega)
                              refine ur_go rfl ?_
                              obtain ⟨fs722, hc723⟩ := hO716.mod
                              obtain ⟨f724, p725, t726⟩ := mf_4 hO716 hc723
                              have t727 := fI_of hc723 p725
                              obtain ⟨f728, p729, t730⟩ := mf_38 hO716 hc723
                              have t731 := fI_of hc723 p729
                              have z732 := any_r x719
                              exact ih452 x719 _ hO716 (hu461.tr hu716) (by omega) (px462.un hO461 hO716 hv716 (by decide)) (by omega)
                            · refine ur_ldA rfl rfl ?_
                              refine ur_ldI rfl rfl ?_
                              refine ur_ldA rfl rfl ?_
                              obtain ⟨fs733, hc734⟩ := hO716.mod
                              refine ur_get rfl hc734 (mf_35 hO716 hc734) ?_
                              refine ur_ldI rfl rfl ?_
                              refine ur_aldV rfl (hv716.ka (n := 10) hc694 hn696 rfl (by decide) (wid_f (by decide)) (by decide)) hn696 (by omega) (fun x735 hx736 => ?_)
                              obtain rfl : x698 = x735 := Option.some.inj (hx699.symm.trans hx736)
                              refine ur_ldI rfl rfl ?_
                              obtain ⟨f737, p738, t739⟩ := mf_4 hO716 hc734
                              have t740 := fI_of hc734 p738
                              have t741 := fI_keep (k := 4) hO0 hO716 (hu19.tr (hu49.tr (hu461.tr hu716))) rfl (by decide)
                              have t742 := fI_keep (k := 38) hO0 hO716 (hu19.tr (hu49.tr (hu461.tr hu716))) rfl (by decide)
                              refine ur_inl rfl (rcv_of hc734) (Nat.le_of_ble_eq_true rfl) (Nat.le_of_ble_eq_true rfl) (sd_X12_seenBy hO716 (hX0.un hO0 hO716 (hu19.tr (hu49.tr (hu461.tr hu716))) (by decide)) _ (by show 0 ≤ a3.toInt ∧ a3.toInt ≤ 11; omega) _ _ (px462.un hO461 hO716 hv716 (by decide)) (by omega) (fun w743 h746 hr744 hO746 hv746 hp745 => ?_))
                              have hu746 : un [80, 81, 7961, 7962] h716 h746 := hv746.mono (by decide)
                              obtain ⟨x747, rfl, t748⟩ := hr744
                              show uRun _ (uCall Mt _) _ 171 (_, [(.inl x747)], _, _, _)
                              refine ur_push rfl ?_
                              refine ur_if2 rfl (fun c749 => ?_) (fun c749 => ?_)
                              · have t750 := lt_to c749
                                refine ur_ldA rfl rfl ?_
                                refine ur_ldI rfl rfl ?_
                                obtain ⟨fs751, hc752⟩ := hO746.mod
                                obtain ⟨f753, p754⟩ := mf_61 hO746 hc752
                                refine ur_putM (W := [7961]) rfl hO746 hc752 (by decide) rfl (ms_61 (hO746.msh hc752)) (Or.inr (by decide)) (fun h756 hO756 hv756 d755 hc757 => ?_)
                                have hu756 : un [80, 81, 7961, 7962] h746 h756 := hv756.mono (by decide)
                                refine ur_ldA rfl rfl ?_
                                refine ur_ldA rfl rfl ?_
                                refine ur_get rfl hc757 (mf_35 hO756 hc757) ?_
                                refine ur_ldI rfl rfl ?_
                                refine ur_aldV rfl ((d755 _ (by decide)).trans (hv746.ka (n := 10) (hv716.ka (n := 10) hc694 hn696 rfl (by decide) (wid_f (by decide)) (by decide)) hn696 rfl (by decide) (wid_f (by decide)) (by decide))) hn696 (by omega) (fun x758 hx759 => ?_)
                                obtain rfl : x698 = x758 := Option.some.inj (hx699.symm.trans hx759)
                                obtain ⟨f760, p761⟩ := mf_62 hO756 hc757
                                refine ur_putM (W := [7962]) rfl hO756 hc757 (by decide) rfl (ms_62 (hO756.msh hc757)) (Or.inr (by decide)) (fun h763 hO763 hv763 d762 hc764 => ?_)
                                have hu763 : un [80, 81, 7961, 7962] h756 h763 := hv763.mono (by decide)
                                refine ur_go rfl ?_
                                refine ur_incV (fun z => [some (.inr (.inr (some 69))), some (.inl a1), some (.inl a2), some (.inl a3), some (.inl z), some (.inl x50), some (.inl x60), some (.inl x446), some (.inl x449)]) rfl rfl (fun _ => rfl) (fun x765 e766 => ?_)
                                have z767 := any_r x11
                                have t768 := ti_add e766 (by omega) (by omega)
                                refine ur_go rfl ?_
                                obtain ⟨f769, p770, t771⟩ := mf_4 hO763 hc764
                                have t772 := fI_of hc764 p770
                                obtain ⟨f773, p774, t775⟩ := mf_38 hO763 hc764
                                have t776 := fI_of hc764 p774
                                have z777 := any_r x765
                                exact ih18 x765 _ _ _ _ _ hO763 (hu19.tr (hu49.tr (hu461.tr (hu716.tr (hu746.tr (hu756.tr hu763)))))) (by omega) ((hp745.un hO746 hO756 hv756 (by decide)).un hO756 hO763 hv763 (by decide)) (by omega)
                              · have t778 := lt_no c749
                                refine ur_go rfl ?_
                                refine ur_incV (fun z => [some (.inr (.inr (some 69))), some (.inl a1), some (.inl a2), some (.inl a3), some (.inl x11), some (.inl x50), some (.inl x60), some (.inl x446), some (.inl z)]) rfl rfl (fun _ => rfl) (fun x779 e780 => ?_)
                                have t781 := ti_add e780 (by omega) (by omega)
                                refine ur_go rfl ?_
                                obtain ⟨fs782, hc783⟩ := hO746.mod
                                obtain ⟨f784, p785, t786⟩ := mf_4 hO746 hc783
                                have t787 := fI_of hc783 p785
                                obtain ⟨f788, p789, t790⟩ := mf_38 hO746 hc783
                                have t791 := fI_of hc783 p789
                                have z792 := any_r x779
                                exact ih452 x779 _ hO746 (hu461.tr (hu716.tr hu746)) (by omega) hp745 (by omega)
                          · have t793 := lt_no c704
                            refine ur_go rfl ?_
                            refine ur_incV (fun z => [some (.inr (.inr (some 69))), some (.inl a1), some (.inl a2), some (.inl a3), some (.inl z), some (.inl x50), some (.inl x60), some (.inl x446), some (.inl x449)]) rfl rfl (fun _ => rfl) (fun x794 e795 => ?_)
                            have z796 := any_r x11
                            have t797 := ti_add e795 (by omega) (by omega)
                            refine ur_go rfl ?_
                            obtain ⟨f798, p799, t800⟩ := mf_4 hO461 hc486
                            have t801 := fI_of hc486 p799
                            obtain ⟨f802, p803, t804⟩ := mf_38 hO461 hc486
                            have t805 := fI_of hc486 p803
                            have z806 := any_r x794
                            exact ih18 x794 _ _ _ _ _ hO461 (hu19.tr (hu49.tr hu461)) (by omega) px462 (by omega)
              exact L450 _ x60 _ hO49 un.rf (by omega) hp48 (Nat.lt_succ_self _)
          · have t807 := le_no c68
            refine ur_ldI rfl rfl ?_
            refine ur_push rfl ?_
            refine ur_binV rfl (fun x808 e809 => ?_)
            have t810 := ti_sub e809 (by omega) (by omega)
            refine ur_go rfl ?_
            refine ur_svIk [some (.inr (.inr (some 69))), some (.inl a1), some (.inl a2), some (.inl a3), some (.inl x11), some (.inl x50), some (.inl x808), u14, u15] rfl rfl ?_
            refine ur_ldA rfl rfl ?_
            refine ur_get rfl hc55 (mf_37 hO49 hc55) ?_
            refine ur_ldI rfl rfl ?_
            obtain ⟨xs812, hc811, hn813, he814⟩ := hO49.int (hO49.fix 95 (by decide) rfl)
            refine ur_aldV rfl hc811 hn813 (by omega) (fun x815 hx816 => ?_)
            have t817 : 0 ≤ x815.toInt ∧ x815.toInt ≤ 999999 := he814 _ _ hx816
            refine ur_ldI rfl rfl ?_
            refine ur_push rfl ?_
            refine ur_binV rfl (fun x818 e819 => ?_)
            have t820 := ti_add e819 (by omega) (by omega)
            have z821 := any_r x815
            have z822 := any_r x818
            refine ur_if2 rfl (fun c823 => ?_) (fun c823 => ?_)
            · have t824 := le_to c823
              refine ur_ldA rfl rfl ?_
              refine ur_get rfl hc55 (mf_37 hO49 hc55) ?_
              refine ur_ldI rfl rfl ?_
              refine ur_aldV rfl hc811 hn813 (by omega) (fun x825 hx826 => ?_)
              obtain rfl : x815 = x825 := Option.some.inj (hx816.symm.trans hx826)
              refine ur_svIk [some (.inr (.inr (some 69))), some (.inl a1), some (.inl a2), some (.inl a3), some (.inl x11), some (.inl x50), some (.inl x808), some (.inl x815), u15] rfl rfl ?_
              refine ur_ldI rfl rfl ?_
              refine ur_svIk [some (.inr (.inr (some 69))), some (.inl a1), some (.inl a2), some (.inl a3), some (.inl x11), some (.inl x50), some (.inl x808), some (.inl x815), some (.inl x808)] rfl rfl ?_
              obtain ⟨f831, p832, t833⟩ := mf_4 hO49 hc55
              have t834 := fI_of hc55 p832
              obtain ⟨f835, p836, t837⟩ := mf_38 hO49 hc55
              have t838 := fI_of hc55 p836
              have L828 : ∀ (m829 : Nat) (x827 : Int32) (h839 : aH) , OK h839 → un [80, 81, 7961, 7962] h49 h839 → ((-120 ≤ x827.toInt ∧ x827.toInt ≤ 2147483647)) → (SKm h839) → ((2147483648 - x827.toInt).toNat) < m829 → uRun oX12_lookOut (uCall Mt (d + 6)) Q 92 ([some (.inr (.inr (some 69))), some (.inl a1), some (.inl a2), some (.inl a3), some (.inl x11), some (.inl x50), some (.inl x808), some (.inl x815), some (.inl x827)], [], h839, kc, ks) := by
                intro m829
                induction m829 with
                | zero => intro x827 h839 hO839 hu839 iv841 px840 mm842; omega
                | succ m829 ih830 =>
                  intro x827 h839 hO839 hu839 iv841 px840 mm842
                  refine ur_ldI rfl rfl ?_
                  refine ur_ldI rfl rfl ?_
                  have z843 := any_r x827
                  refine ur_if2 rfl (fun c844 => ?_) (fun c844 => ?_)
                  · have t845 := lt_to c844
                    refine ur_incV (fun z => [some (.inr (.inr (some 69))), some (.inl a1), some (.inl a2), some (.inl a3), some (.inl z), some (.inl x50), some (.inl x808), some (.inl x815), some (.inl x827)]) rfl rfl (fun _ => rfl) (fun x846 e847 => ?_)
                    have z848 := any_r x11
                    have t849 := ti_add e847 (by omega) (by omega)
                    refine ur_go rfl ?_
                    obtain ⟨fs850, hc851⟩ := hO839.mod
                    obtain ⟨f852, p853, t854⟩ := mf_4 hO839 hc851
                    have t855 := fI_of hc851 p853
                    obtain ⟨f856, p857, t858⟩ := mf_38 hO839 hc851
                    have t859 := fI_of hc851 p857
                    have z860 := any_r x846
                    exact ih18 x846 _ _ _ _ _ hO839 (hu19.tr (hu49.tr hu839)) (by omega) px840 (by omega)
                  · have t861 := lt_no c844
                    refine ur_ldA rfl rfl ?_
                    obtain ⟨fs862, hc863⟩ := hO839.mod
                    obtain ⟨f864, p865⟩ := mf_61 hO839 hc863
                    refine ur_get rfl hc863 p865 ?_
                    refine ur_if1 rfl (fun c866 => ?_) (fun c866 => ?_)
                    · have t867 := lt_to c866
                      refine ur_ldA rfl rfl ?_
                      refine ur_ldI rfl rfl ?_
                      refine ur_ldI rfl rfl ?_
                      refine ur_ldA rfl rfl ?_
                      refine ur_get rfl hc863 (mf_35 hO839 hc863) ?_
                      refine ur_ldI rfl rfl ?_
                      obtain ⟨xs869, hc868, hn870, he871⟩ := hO839.int (hO839.fix 93 (by decide) rfl)
                      refine ur_aldV rfl hc868 hn870 (by omega) (fun x872 hx873 => ?_)
                      refine ur_ldI rfl rfl ?_
                      obtain ⟨f874, p875, t876⟩ := mf_4 hO839 hc863
                      have t877 := fI_of hc863 p875
                      have t878 := fI_keep (k := 4) hO0 hO839 (hu19.tr (hu49.tr hu839)) rfl (by decide)
                      have t879 := fI_keep (k := 38) hO0 hO839 (hu19.tr (hu49.tr hu839)) rfl (by decide)
                      refine ur_inl rfl (rcv_of hc863) (Nat.le_of_ble_eq_true rfl) (Nat.le_of_ble_eq_true rfl) (sf_X12_canSee hO839 (hX0.un hO0 hO839 (hu19.tr (hu49.tr hu839)) (by decide)) _ (by show 0 ≤ a2.toInt ∧ a2.toInt ≤ 11; omega) _ _ _ (by omega) (fun w880 h882 hr881 hO882 hv882 => ?_))
                      have hu882 : un [80, 81, 7961, 7962] h839 h882 := hv882.mono (by decide)
                      obtain ⟨b883, rfl⟩ := hr881
                      show uRun _ (uCall Mt _) _ 155 (_, [(.inl (bi b883))], _, _, _)
                      refine ur_eqB rfl (fun c884 => ?_) (fun c884 => ?_)
                      · refine ur_incV (fun z => [some (.inr (.inr (some 69))), some (.inl a1), some (.inl a2), some (.inl a3), some (.inl x11), some (.inl x50), some (.inl x808), some (.inl x815), some (.inl z)]) rfl rfl (fun _ => rfl) (fun x885 e886 => ?_)
                        have t887 := ti_add e886 (by omega) (by omega)
                        refine ur_go rfl ?_
                        obtain ⟨fs888, hc889⟩ := hO882.mod
                        obtain ⟨f890, p891, t892⟩ := mf_4 hO882 hc889
                        have t893 := fI_of hc889 p891
                        obtain ⟨f894, p895, t896⟩ := mf_38 hO882 hc889
                        have t897 := fI_of hc889 p895
                        have z898 := any_r x885
                        exact ih830 x885 _ hO882 (hu839.tr hu882) (by omega) (px840.un hO839 hO882 hv882 (by decide)) (by omega)
                      · refine ur_ldA rfl rfl ?_
                        refine ur_ldI rfl rfl ?_
                        refine ur_ldA rfl rfl ?_
                        obtain ⟨fs899, hc900⟩ := hO882.mod
                        refine ur_get rfl hc900 (mf_35 hO882 hc900) ?_
                        refine ur_ldI rfl rfl ?_
                        refine ur_aldV rfl (hv882.ka (n := 10) hc868 hn870 rfl (by decide) (wid_f (by decide)) (by decide)) hn870 (by omega) (fun x901 hx902 => ?_)
                        obtain rfl : x872 = x901 := Option.some.inj (hx873.symm.trans hx902)
                        refine ur_ldI rfl rfl ?_
                        obtain ⟨f903, p904, t905⟩ := mf_4 hO882 hc900
                        have t906 := fI_of hc900 p904
                        have t907 := fI_keep (k := 4) hO0 hO882 (hu19.tr (hu49.tr (hu839.tr hu882))) rfl (by decide)
                        have t908 := fI_keep (k := 38) hO0 hO882 (hu19.tr (hu49.tr (hu839.tr hu882))) rfl (by decide)
                        refine ur_inl rfl (rcv_of hc900) (Nat.le_of_ble_eq_true rfl) (Nat.le_of_ble_eq_true rfl) (sd_X12_seenBy hO882 (hX0.un hO0 hO882 (hu19.tr (hu49.tr (hu839.tr hu882))) (by decide)) _ (by show 0 ≤ a3.toInt ∧ a3.toInt ≤ 11; omega) _ _ (px840.un hO839 hO882 hv882 (by decide)) (by omega) (fun w909 h912 hr910 hO912 hv912 hp911 => ?_))
                        have hu912 : un [80, 81, 7961, 7962] h882 h912 := hv912.mono (by decide)
                        obtain ⟨x913, rfl, t914⟩ := hr910
                        show uRun _ (uCall Mt _) _ 171 (_, [(.inl x913)], _, _, _)
                        refine ur_push rfl ?_
                        refine ur_if2 rfl (fun c915 => ?_) (fun c915 => ?_)
                        · have t916 := lt_to c915
                          refine ur_ldA rfl rfl ?_
                          refine ur_ldI rfl rfl ?_
                          obtain ⟨fs917, hc918⟩ := hO912.mod
                          obtain ⟨f919, p920⟩ := mf_61 hO912 hc918
                          refine ur_putM (W := [7961]) rfl hO912 hc918 (by decide) rfl (ms_61 (hO912.msh hc918)) (Or.inr (by decide)) (fun h922 hO922 hv922 d921 hc923 => ?_)
                          have hu922 : un [80, 81, 7961, 7962] h912 h922 := hv922.mono (by decide)
                          refine ur_ldA rfl rfl ?_
                          refine ur_ldA rfl rfl ?_
                          refine ur_get rfl hc923 (mf_35 hO922 hc923) ?_
                          refine ur_ldI rfl rfl ?_
                          refine ur_aldV rfl ((d921 _ (by decide)).trans (hv912.ka (n := 10) (hv882.ka (n := 10) hc868 hn870 rfl (by decide) (wid_f (by decide)) (by decide)) hn870 rfl (by decide) (wid_f (by decide)) (by decide))) hn870 (by omega) (fun x924 hx925 => ?_)
                          obtain rfl : x872 = x924 := Option.some.inj (hx873.symm.trans hx925)
                          obtain ⟨f926, p927⟩ := mf_62 hO922 hc923
                          refine ur_putM (W := [7962]) rfl hO922 hc923 (by decide) rfl (ms_62 (hO922.msh hc923)) (Or.inr (by decide)) (fun h929 hO929 hv929 d928 hc930 => ?_)
                          have hu929 : un [80, 81, 7961, 7962] h922 h929 := hv929.mono (by decide)
                          refine ur_go rfl ?_
                          refine ur_incV (fun z => [some (.inr (.inr (some 69))), some (.inl a1), some (.inl a2), some (.inl a3), some (.inl z), some (.inl x50), some (.inl x808), some (.inl x815), some (.inl x827)]) rfl rfl (fun _ => rfl) (fun x931 e932 => ?_)
                          have z933 := any_r x11
                          have t934 := ti_add e932 (by omega) (by omega)
                          refine ur_go rfl ?_
                          obtain ⟨f935, p936, t937⟩ := mf_4 hO929 hc930
                          have t938 := fI_of hc930 p936
                          obtain ⟨f939, p940, t941⟩ := mf_38 hO929 hc930
                          have t942 := fI_of hc930 p940
                          have z943 := any_r x931
                          exact ih18 x931 _ _ _ _ _ hO929 (hu19.tr (hu49.tr (hu839.tr (hu882.tr (hu912.tr (hu922.tr hu929)))))) (by omega) ((hp911.un hO912 hO922 hv922 (by decide)).un hO922 hO929 hv929 (by decide)) (by omega)
                        · have t944 := lt_no c915
                          refine ur_go rfl ?_
                          refine ur_incV (fun z => [some (.inr (.inr (some 69))), some (.inl a1), some (.inl a2), some (.inl a3), some (.inl x11), some (.inl x50), some (.inl x808), some (.inl x815), some (.inl z)]) rfl rfl (fun _ => rfl) (fun x945 e946 => ?_)
                          have t947 := ti_add e946 (by omega) (by omega)
                          refine ur_go rfl ?_
                          obtain ⟨fs948, hc949⟩ := hO912.mod
                          obtain ⟨f950, p951, t952⟩ := mf_4 hO912 hc949
                          have t953 := fI_of hc949 p951
                          obtain ⟨f954, p955, t956⟩ := mf_38 hO912 hc949
                          have t957 := fI_of hc949 p955
                          have z958 := any_r x945
                          exact ih830 x945 _ hO912 (hu839.tr (hu882.tr hu912)) (by omega) hp911 (by omega)
                    · have t959 := lt_no c866
                      refine ur_ldI rfl rfl ?_
                      refine ur_ldA rfl rfl ?_
                      refine ur_get rfl hc863 p865 ?_
                      have z960 := any_r f864
                      refine ur_if2 rfl (fun c961 => ?_) (fun c961 => ?_)
                      · have t962 := lt_to c961
                        refine ur_incV (fun z => [some (.inr (.inr (some 69))), some (.inl a1), some (.inl a2), some (.inl a3), some (.inl z), some (.inl x50), some (.inl x808), some (.inl x815), some (.inl x827)]) rfl rfl (fun _ => rfl) (fun x963 e964 => ?_)
                        have z965 := any_r x11
                        have t966 := ti_add e964 (by omega) (by omega)
                        refine ur_go rfl ?_
                        obtain ⟨f967, p968, t969⟩ := mf_4 hO839 hc863
                        have t970 := fI_of hc863 p968
                        obtain ⟨f971, p972, t973⟩ := mf_38 hO839 hc863
                        have t974 := fI_of hc863 p972
                        have z975 := any_r x963
                        exact ih18 x963 _ _ _ _ _ hO839 (hu19.tr (hu49.tr hu839)) (by omega) px840 (by omega)
                      · have t976 := lt_no c961
                        refine ur_ldI rfl rfl ?_
                        refine ur_ldA rfl rfl ?_
                        refine ur_get rfl hc863 p865 ?_
                        refine ur_if2 rfl (fun c977 => ?_) (fun c977 => ?_)
                        · have t978 := ne_to c977
                          refine ur_ldA rfl rfl ?_
                          refine ur_ldI rfl rfl ?_
                          refine ur_ldI rfl rfl ?_
                          refine ur_ldA rfl rfl ?_
                          refine ur_get rfl hc863 (mf_35 hO839 hc863) ?_
                          refine ur_ldI rfl rfl ?_
                          obtain ⟨xs980, hc979, hn981, he982⟩ := hO839.int (hO839.fix 93 (by decide) rfl)
                          refine ur_aldV rfl hc979 hn981 (by omega) (fun x983 hx984 => ?_)
                          refine ur_ldI rfl rfl ?_
                          obtain ⟨f985, p986, t987⟩ := mf_4 hO839 hc863
                          have t988 := fI_of hc863 p986
                          have t989 := fI_keep (k := 4) hO0 hO839 (hu19.tr (hu49.tr hu839)) rfl (by decide)
                          have t990 := fI_keep (k := 38) hO0 hO839 (hu19.tr (hu49.tr hu839)) rfl (by decide)
                          refine ur_inl rfl (rcv_of hc863) (Nat.le_of_ble_eq_true rfl) (Nat.le_of_ble_eq_true rfl) (sf_X12_canSee hO839 (hX0.un hO0 hO839 (hu19.tr (hu49.tr hu839)) (by decide)) _ (by show 0 ≤ a2.toInt ∧ a2.toInt ≤ 11; omega) _ _ _ (by omega) (fun w991 h993 hr992 hO993 hv993 => ?_))
                          have hu993 : un [80, 81, 7961, 7962] h839 h993 := hv993.mono (by decide)
                          obtain ⟨b994, rfl⟩ := hr992
                          show uRun _ (uCall Mt _) _ 155 (_, [(.inl (bi b994))], _, _, _)
                          refine ur_eqB rfl (fun c995 => ?_) (fun c995 => ?_)
                          · refine ur_incV (fun z => [some (.inr (.inr (some 69))), some (.inl a1), some (.inl a2), some (.inl a3), some (.inl x11), some (.inl x50), some (.inl x808), some (.inl x815), some (.inl z)]) rfl rfl (fun _ => rfl) (fun x996 e997 => ?_)
                            have t998 := ti_add e997 (by omega) (by omega)
                            refine ur_go rfl ?_
                            obtain ⟨fs999, hc1000⟩ := hO993.mod
                            obtain ⟨f1001, p1002, t1003⟩ := mf_4 hO993 hc1000
                            have t1004 := fI_of hc1000 p1002
                            obtain ⟨f1005, p1006, t1007⟩ := mf_38 hO993 hc1000
                            have t1008 := fI_of hc1000 p1006
                            have z1009 := any_r x996
                            exact ih830 x996 _ hO993 (hu839.tr hu993) (by omega) (px840.un hO839 hO993 hv993 (by decide)) (by omega)
                          · refine ur_ldA rfl rfl ?_
                            refine ur_ldI rfl rfl ?_
                            refine ur_ldA rfl rfl ?_
                            obtain ⟨fs1010, hc1011⟩ := hO993.mod
                            refine ur_get rfl hc1011 (mf_35 hO993 hc1011) ?_
                            refine ur_ldI rfl rfl ?_
                            refine ur_aldV rfl (hv993.ka (n := 10) hc979 hn981 rfl (by decide) (wid_f (by decide)) (by decide)) hn981 (by omega) (fun x1012 hx1013 => ?_)
                            obtain rfl : x983 = x1012 := Option.some.inj (hx984.symm.trans hx1013)
                            refine ur_ldI rfl rfl ?_
                            obtain ⟨f1014, p1015, t1016⟩ := mf_4 hO993 hc1011
                            have t1017 := fI_of hc1011 p1015
                            have t1018 := fI_keep (k := 4) hO0 hO993 (hu19.tr (hu49.tr (hu839.tr hu993))) rfl (by decide)
                            have t1019 := fI_keep (k := 38) hO0 hO993 (hu19.tr (hu49.tr (hu839.tr hu993))) rfl (by decide)
                            refine ur_inl rfl (rcv_of hc1011) (Nat.le_of_ble_eq_true rfl) (Nat.le_of_ble_eq_true rfl) (sd_X12_seenBy hO993 (hX0.un hO0 hO993 (hu19.tr (hu49.tr (hu839.tr hu993))) (by decide)) _ (by show 0 ≤ a3.toInt ∧ a3.toInt ≤ 11; omega) _ _ (px840.un hO839 hO993 hv993 (by decide)) (by omega) (fun w1020 h1023 hr1021 hO1023 hv1023 hp1022 => ?_))
                            have hu1023 : un [80, 81, 7961, 7962] h993 h1023 := hv1023.mono (by decide)
                            obtain ⟨x1024, rfl, t1025⟩ := hr1021
                            show uRun _ (uCall Mt _) _ 171 (_, [(.inl x1024)], _, _, _)
                            refine ur_push rfl ?_
                            refine ur_if2 rfl (fun c1026 => ?_) (fun c1026 => ?_)
                            · have t1027 := lt_to c1026
                              refine ur_ldA rfl rfl ?_
                              refine ur_ldI rfl rfl ?_
                              obtain ⟨fs1028, hc1029⟩ := hO1023.mod
                              obtain ⟨f1030, p1031⟩ := mf_61 hO1023 hc1029
                              refine ur_putM (W := [7961]) rfl hO1023 hc1029 (by decide) rfl (ms_61 (hO1023.msh hc1029)) (Or.inr (by decide)) (fun h1033 hO1033 hv1033 d1032 hc1034 => ?_)
                              have hu1033 : un [80, 81, 7961, 7962] h1023 h1033 := hv1033.mono (by decide)
                              refine ur_ldA rfl rfl ?_
                              refine ur_ldA rfl rfl ?_
                              refine ur_get rfl hc1034 (mf_35 hO1033 hc1034) ?_
                              refine ur_ldI rfl rfl ?_
                              refine ur_aldV rfl ((d1032 _ (by decide)).trans (hv1023.ka (n := 10) (hv993.ka (n := 10) hc979 hn981 rfl (by decide) (wid_f (by decide)) (by decide)) hn981 rfl (by decide) (wid_f (by decide)) (by decide))) hn981 (by omega) (fun x1035 hx1036 => ?_)
                              obtain rfl : x983 = x1035 := Option.some.inj (hx984.symm.trans hx1036)
                              obtain ⟨f1037, p1038⟩ := mf_62 hO1033 hc1034
                              refine ur_putM (W := [7962]) rfl hO1033 hc1034 (by decide) rfl (ms_62 (hO1033.msh hc1034)) (Or.inr (by decide)) (fun h1040 hO1040 hv1040 d1039 hc1041 => ?_)
                              have hu1040 : un [80, 81, 7961, 7962] h1033 h1040 := hv1040.mono (by decide)
                              refine ur_go rfl ?_
                              refine ur_incV (fun z => [some (.inr (.inr (some 69))), some (.inl a1), some (.inl a2), some (.inl a3), some (.inl z), some (.inl x50), some (.inl x808), some (.inl x815), some (.inl x827)]) rfl rfl (fun _ => rfl) (fun x1042 e1043 => ?_)
                              have z1044 := any_r x11
                              have t1045 := ti_add e1043 (by omega) (by omega)
                              refine ur_go rfl ?_
                              obtain ⟨f1046, p1047, t1048⟩ := mf_4 hO1040 hc1041
                              have t1049 := fI_of hc1041 p1047
                              obtain ⟨f1050, p1051, t1052⟩ := mf_38 hO1040 hc1041
                              have t1053 := fI_of hc1041 p1051
                              have z1054 := any_r x1042
                              exact ih18 x1042 _ _ _ _ _ hO1040 (hu19.tr (hu49.tr (hu839.tr (hu993.tr (hu1023.tr (hu1033.tr hu1040)))))) (by omega) ((hp1022.un hO1023 hO1033 hv1033 (by decide)).un hO1033 hO1040 hv1040 (by decide)) (by omega)
                            · have t1055 := lt_no c1026
                              refine ur_go rfl ?_
                              refine ur_incV (fun z => [some (.inr (.inr (some 69))), some (.inl a1), some (.inl a2), some (.inl a3), some (.inl x11), some (.inl x50), some (.inl x808), some (.inl x815), some (.inl z)]) rfl rfl (fun _ => rfl) (fun x1056 e1057 => ?_)
                              have t1058 := ti_add e1057 (by omega) (by omega)
                              refine ur_go rfl ?_
                              obtain ⟨fs1059, hc1060⟩ := hO1023.mod
                              obtain ⟨f1061, p1062, t1063⟩ := mf_4 hO1023 hc1060
                              have t1064 := fI_of hc1060 p1062
                              obtain ⟨f1065, p1066, t1067⟩ := mf_38 hO1023 hc1060
                              have t1068 := fI_of hc1060 p1066
                              have z1069 := any_r x1056
                              exact ih830 x1056 _ hO1023 (hu839.tr (hu993.tr hu1023)) (by omega) hp1022 (by omega)
                        · have t1070 := ne_no c977
                          refine ur_ldA rfl rfl ?_
                          refine ur_get rfl hc863 (mf_35 hO839 hc863) ?_
                          refine ur_ldI rfl rfl ?_
                          obtain ⟨xs1072, hc1071, hn1073, he1074⟩ := hO839.int (hO839.fix 93 (by decide) rfl)
                          refine ur_aldV rfl hc1071 hn1073 (by omega) (fun x1075 hx1076 => ?_)
                          refine ur_ldA rfl rfl ?_
                          obtain ⟨f1077, p1078⟩ := mf_62 hO839 hc863
                          refine ur_get rfl hc863 p1078 ?_
                          have z1079 := any_r x1075
                          have z1080 := any_r f1077
                          refine ur_if2 rfl (fun c1081 => ?_) (fun c1081 => ?_)
                          · have t1082 := lt_to c1081
                            refine ur_ldA rfl rfl ?_
                            refine ur_ldI rfl rfl ?_
                            refine ur_ldI rfl rfl ?_
                            refine ur_ldA rfl rfl ?_
                            refine ur_get rfl hc863 (mf_35 hO839 hc863) ?_
                            refine ur_ldI rfl rfl ?_
                            refine ur_aldV rfl hc1071 hn1073 (by omega) (fun x1083 hx1084 => ?_)
                            obtain rfl : x1075 = x1083 := Option.some.inj (hx1076.symm.trans hx1084)
                            refine ur_ldI rfl rfl ?_
                            obtain ⟨f1085, p1086, t1087⟩ := mf_4 hO839 hc863
                            have t1088 := fI_of hc863 p1086
                            have t1089 := fI_keep (k := 4) hO0 hO839 (hu19.tr (hu49.tr hu839)) rfl (by decide)
                            have t1090 := fI_keep (k := 38) hO0 hO839 (hu19.tr (hu49.tr hu839)) rfl (by decide)
                            refine ur_inl rfl (rcv_of hc863) (Nat.le_of_ble_eq_true rfl) (Nat.le_of_ble_eq_true rfl) (sf_X12_canSee hO839 (hX0.un hO0 hO839 (hu19.tr (hu49.tr hu839)) (by decide)) _ (by show 0 ≤ a2.toInt ∧ a2.toInt ≤ 11; omega) _ _ _ (by omega) (fun w1091 h1093 hr1092 hO1093 hv1093 => ?_))
                            have hu1093 : un [80, 81, 7961, 7962] h839 h1093 := hv1093.mono (by decide)
                            obtain ⟨b1094, rfl⟩ := hr1092
                            show uRun _ (uCall Mt _) _ 155 (_, [(.inl (bi b1094))], _, _, _)
                            refine ur_eqB rfl (fun c1095 => ?_) (fun c1095 => ?_)
                            · refine ur_incV (fun z => [some (.inr (.inr (some 69))), some (.inl a1), some (.inl a2), some (.inl a3), some (.inl x11), some (.inl x50), some (.inl x808), some (.inl x815), some (.inl z)]) rfl rfl (fun _ => rfl) (fun x1096 e1097 => ?_)
                              have t1098 := ti_add e1097 (by omega) (by omega)
                              refine ur_go rfl ?_
                              obtain ⟨fs1099, hc1100⟩ := hO1093.mod
                              obtain ⟨f1101, p1102, t1103⟩ := mf_4 hO1093 hc1100
                              have t1104 := fI_of hc1100 p1102
                              obtain ⟨f1105, p1106, t1107⟩ := mf_38 hO1093 hc1100
                              have t1108 := fI_of hc1100 p1106
                              have z1109 := any_r x1096
                              exact ih830 x1096 _ hO1093 (hu839.tr hu1093) (by omega) (px840.un hO839 hO1093 hv1093 (by decide)) (by omega)
                            · refine ur_ldA rfl rfl ?_
                              refine ur_ldI rfl rfl ?_
                              refine ur_ldA rfl rfl ?_
                              obtain ⟨fs1110, hc1111⟩ := hO1093.mod
                              refine ur_get rfl hc1111 (mf_35 hO1093 hc1111) ?_
                              refine ur_ldI rfl rfl ?_
                              refine ur_aldV rfl (hv1093.ka (n := 10) hc1071 hn1073 rfl (by decide) (wid_f (by decide)) (by decide)) hn1073 (by omega) (fun x1112 hx1113 => ?_)
                              obtain rfl : x1075 = x1112 := Option.some.inj (hx1076.symm.trans hx1113)
                              refine ur_ldI rfl rfl ?_
                              obtain ⟨f1114, p1115, t1116⟩ := mf_4 hO1093 hc1111
                              have t1117 := fI_of hc1111 p1115
                              have t1118 := fI_keep (k := 4) hO0 hO1093 (hu19.tr (hu49.tr (hu839.tr hu1093))) rfl (by decide)
                              have t1119 := fI_keep (k := 38) hO0 hO1093 (hu19.tr (hu49.tr (hu839.tr hu1093))) rfl (by decide)
                              refine ur_inl rfl (rcv_of hc1111) (Nat.le_of_ble_eq_true rfl) (Nat.le_of_ble_eq_true rfl) (sd_X12_seenBy hO1093 (hX0.un hO0 hO1093 (hu19.tr (hu49.tr (hu839.tr hu1093))) (by decide)) _ (by show 0 ≤ a3.toInt ∧ a3.toInt ≤ 11; omega) _ _ (px840.un hO839 hO1093 hv1093 (by decide)) (by omega) (fun w1120 h1123 hr1121 hO1123 hv1123 hp1122 => ?_))
                              have hu1123 : un [80, 81, 7961, 7962] h1093 h1123 := hv1123.mono (by decide)
                              obtain ⟨x1124, rfl, t1125⟩ := hr1121
                              show uRun _ (uCall Mt _) _ 171 (_, [(.inl x1124)], _, _, _)
                              refine ur_push rfl ?_
                              refine ur_if2 rfl (fun c1126 => ?_) (fun c1126 => ?_)
                              · have t1127 := lt_to c1126
                                refine ur_ldA rfl rfl ?_
                                refine ur_ldI rfl rfl ?_
                                obtain ⟨fs1128, hc1129⟩ := hO1123.mod
                                obtain ⟨f1130, p1131⟩ := mf_61 hO1123 hc1129
                                refine ur_putM (W := [7961]) rfl hO1123 hc1129 (by decide) rfl (ms_61 (hO1123.msh hc1129)) (Or.inr (by decide)) (fun h1133 hO1133 hv1133 d1132 hc1134 => ?_)
                                have hu1133 : un [80, 81, 7961, 7962] h1123 h1133 := hv1133.mono (by decide)
                                refine ur_ldA rfl rfl ?_
                                refine ur_ldA rfl rfl ?_
                                refine ur_get rfl hc1134 (mf_35 hO1133 hc1134) ?_
                                refine ur_ldI rfl rfl ?_
                                refine ur_aldV rfl ((d1132 _ (by decide)).trans (hv1123.ka (n := 10) (hv1093.ka (n := 10) hc1071 hn1073 rfl (by decide) (wid_f (by decide)) (by decide)) hn1073 rfl (by decide) (wid_f (by decide)) (by decide))) hn1073 (by omega) (fun x1135 hx1136 => ?_)
                                obtain rfl : x1075 = x1135 := Option.some.inj (hx1076.symm.trans hx1136)
                                obtain ⟨f1137, p1138⟩ := mf_62 hO1133 hc1134
                                refine ur_putM (W := [7962]) rfl hO1133 hc1134 (by decide) rfl (ms_62 (hO1133.msh hc1134)) (Or.inr (by decide)) (fun h1140 hO1140 hv1140 d1139 hc1141 => ?_)
                                have hu1140 : un [80, 81, 7961, 7962] h1133 h1140 := hv1140.mono (by decide)
                                refine ur_go rfl ?_
                                refine ur_incV (fun z => [some (.inr (.inr (some 69))), some (.inl a1), some (.inl a2), some (.inl a3), some (.inl z), some (.inl x50), some (.inl x808), some (.inl x815), some (.inl x827)]) rfl rfl (fun _ => rfl) (fun x1142 e1143 => ?_)
                                have z1144 := any_r x11
                                have t1145 := ti_add e1143 (by omega) (by omega)
                                refine ur_go rfl ?_
                                obtain ⟨f1146, p1147, t1148⟩ := mf_4 hO1140 hc1141
                                have t1149 := fI_of hc1141 p1147
                                obtain ⟨f1150, p1151, t1152⟩ := mf_38 hO1140 hc1141
                                have t1153 := fI_of hc1141 p1151
                                have z1154 := any_r x1142
                                exact ih18 x1142 _ _ _ _ _ hO1140 (hu19.tr (hu49.tr (hu839.tr (hu1093.tr (hu1123.tr (hu1133.tr hu1140)))))) (by omega) ((hp1122.un hO1123 hO1133 hv1133 (by decide)).un hO1133 hO1140 hv1140 (by decide)) (by omega)
                              · have t1155 := lt_no c1126
                                refine ur_go rfl ?_
                                refine ur_incV (fun z => [some (.inr (.inr (some 69))), some (.inl a1), some (.inl a2), some (.inl a3), some (.inl x11), some (.inl x50), some (.inl x808), some (.inl x815), some (.inl z)]) rfl rfl (fun _ => rfl) (fun x1156 e1157 => ?_)
                                have t1158 := ti_add e1157 (by omega) (by omega)
                                refine ur_go rfl ?_
                                obtain ⟨fs1159, hc1160⟩ := hO1123.mod
                                obtain ⟨f1161, p1162, t1163⟩ := mf_4 hO1123 hc1160
                                have t1164 := fI_of hc1160 p1162
                                obtain ⟨f1165, p1166, t1167⟩ := mf_38 hO1123 hc1160
                                have t1168 := fI_of hc1160 p1166
                                have z1169 := any_r x1156
                                exact ih830 x1156 _ hO1123 (hu839.tr (hu1093.tr hu1123)) (by omega) hp1122 (by omega)
                          · have t1170 := lt_no c1081
                            refine ur_go rfl ?_
                            refine ur_incV (fun z => [some (.inr (.inr (some 69))), some (.inl a1), some (.inl a2), some (.inl a3), some (.inl z), some (.inl x50), some (.inl x808), some (.inl x815), some (.inl x827)]) rfl rfl (fun _ => rfl) (fun x1171 e1172 => ?_)
                            have z1173 := any_r x11
                            have t1174 := ti_add e1172 (by omega) (by omega)
                            refine ur_go rfl ?_
                            obtain ⟨f1175, p1176, t1177⟩ := mf_4 hO839 hc863
                            have t1178 := fI_of hc863 p1176
                            obtain ⟨f1179, p1180, t1181⟩ := mf_38 hO839 hc863
                            have t1182 := fI_of hc863 p1180
                            have z1183 := any_r x1171
                            exact ih18 x1171 _ _ _ _ _ hO839 (hu19.tr (hu49.tr hu839)) (by omega) px840 (by omega)
              have z1184 := any_r x808
              exact L828 _ x808 _ hO49 un.rf (by omega) hp48 (Nat.lt_succ_self _)
            · have t1185 := le_no c823
              refine ur_ldI rfl rfl ?_
              refine ur_push rfl ?_
              refine ur_binV rfl (fun x1186 e1187 => ?_)
              have t1188 := ti_add e1187 (by omega) (by omega)
              refine ur_go rfl ?_
              refine ur_svIk [some (.inr (.inr (some 69))), some (.inl a1), some (.inl a2), some (.inl a3), some (.inl x11), some (.inl x50), some (.inl x808), some (.inl x1186), u15] rfl rfl ?_
              refine ur_ldI rfl rfl ?_
              refine ur_svIk [some (.inr (.inr (some 69))), some (.inl a1), some (.inl a2), some (.inl a3), some (.inl x11), some (.inl x50), some (.inl x808), some (.inl x1186), some (.inl x808)] rfl rfl ?_
              obtain ⟨f1193, p1194, t1195⟩ := mf_4 hO49 hc55
              have t1196 := fI_of hc55 p1194
              obtain ⟨f1197, p1198, t1199⟩ := mf_38 hO49 hc55
              have t1200 := fI_of hc55 p1198
              have L1190 : ∀ (m1191 : Nat) (x1189 : Int32) (h1201 : aH) , OK h1201 → un [80, 81, 7961, 7962] h49 h1201 → ((-120 ≤ x1189.toInt ∧ x1189.toInt ≤ 2147483647)) → (SKm h1201) → ((2147483648 - x1189.toInt).toNat) < m1191 → uRun oX12_lookOut (uCall Mt (d + 6)) Q 92 ([some (.inr (.inr (some 69))), some (.inl a1), some (.inl a2), some (.inl a3), some (.inl x11), some (.inl x50), some (.inl x808), some (.inl x1186), some (.inl x1189)], [], h1201, kc, ks) := by
                intro m1191
                induction m1191 with
                | zero => intro x1189 h1201 hO1201 hu1201 iv1203 px1202 mm1204; omega
                | succ m1191 ih1192 =>
                  intro x1189 h1201 hO1201 hu1201 iv1203 px1202 mm1204
                  refine ur_ldI rfl rfl ?_
                  refine ur_ldI rfl rfl ?_
                  have z1205 := any_r x1189
                  have z1206 := any_r x1186
                  refine ur_if2 rfl (fun c1207 => ?_) (fun c1207 => ?_)
                  · have t1208 := lt_to c1207
                    refine ur_incV (fun z => [some (.inr (.inr (some 69))), some (.inl a1), some (.inl a2), some (.inl a3), some (.inl z), some (.inl x50), some (.inl x808), some (.inl x1186), some (.inl x1189)]) rfl rfl (fun _ => rfl) (fun x1209 e1210 => ?_)
                    have z1211 := any_r x11
                    have t1212 := ti_add e1210 (by omega) (by omega)
                    refine ur_go rfl ?_
                    obtain ⟨fs1213, hc1214⟩ := hO1201.mod
                    obtain ⟨f1215, p1216, t1217⟩ := mf_4 hO1201 hc1214
                    have t1218 := fI_of hc1214 p1216
                    obtain ⟨f1219, p1220, t1221⟩ := mf_38 hO1201 hc1214
                    have t1222 := fI_of hc1214 p1220
                    have z1223 := any_r x1209
                    exact ih18 x1209 _ _ _ _ _ hO1201 (hu19.tr (hu49.tr hu1201)) (by omega) px1202 (by omega)
                  · have t1224 := lt_no c1207
                    refine ur_ldA rfl rfl ?_
                    obtain ⟨fs1225, hc1226⟩ := hO1201.mod
                    obtain ⟨f1227, p1228⟩ := mf_61 hO1201 hc1226
                    refine ur_get rfl hc1226 p1228 ?_
                    refine ur_if1 rfl (fun c1229 => ?_) (fun c1229 => ?_)
                    · have t1230 := lt_to c1229
                      refine ur_ldA rfl rfl ?_
                      refine ur_ldI rfl rfl ?_
                      refine ur_ldI rfl rfl ?_
                      refine ur_ldA rfl rfl ?_
                      refine ur_get rfl hc1226 (mf_35 hO1201 hc1226) ?_
                      refine ur_ldI rfl rfl ?_
                      obtain ⟨xs1232, hc1231, hn1233, he1234⟩ := hO1201.int (hO1201.fix 93 (by decide) rfl)
                      refine ur_aldV rfl hc1231 hn1233 (by omega) (fun x1235 hx1236 => ?_)
                      refine ur_ldI rfl rfl ?_
                      obtain ⟨f1237, p1238, t1239⟩ := mf_4 hO1201 hc1226
                      have t1240 := fI_of hc1226 p1238
                      have t1241 := fI_keep (k := 4) hO0 hO1201 (hu19.tr (hu49.tr hu1201)) rfl (by decide)
                      have t1242 := fI_keep (k := 38) hO0 hO1201 (hu19.tr (hu49.tr hu1201)) rfl (by decide)
                      refine ur_inl rfl (rcv_of hc1226) (Nat.le_of_ble_eq_true rfl) (Nat.le_of_ble_eq_true rfl) (sf_X12_canSee hO1201 (hX0.un hO0 hO1201 (hu19.tr (hu49.tr hu1201)) (by decide)) _ (by show 0 ≤ a2.toInt ∧ a2.toInt ≤ 11; omega) _ _ _ (by omega) (fun w1243 h1245 hr1244 hO1245 hv1245 => ?_))
                      have hu1245 : un [80, 81, 7961, 7962] h1201 h1245 := hv1245.mono (by decide)
                      obtain ⟨b1246, rfl⟩ := hr1244
                      show uRun _ (uCall Mt _) _ 155 (_, [(.inl (bi b1246))], _, _, _)
                      refine ur_eqB rfl (fun c1247 => ?_) (fun c1247 => ?_)
                      · refine ur_incV (fun z => [some (.inr (.inr (some 69))), some (.inl a1), some (.inl a2), some (.inl a3), some (.inl x11), some (.inl x50), some (.inl x808), some (.inl x1186), some (.inl z)]) rfl rfl (fun _ => rfl) (fun x1248 e1249 => ?_)
                        have t1250 := ti_add e1249 (by omega) (by omega)
                        refine ur_go rfl ?_
                        obtain ⟨fs1251, hc1252⟩ := hO1245.mod
                        obtain ⟨f1253, p1254, t1255⟩ := mf_4 hO1245 hc1252
                        have t1256 := fI_of hc1252 p1254
                        obtain ⟨f1257, p1258, t1259⟩ := mf_38 hO1245 hc1252
                        have t1260 := fI_of hc1252 p1258
                        have z1261 := any_r x1248
                        exact ih1192 x1248 _ hO1245 (hu1201.tr hu1245) (by omega) (px1202.un hO1201 hO1245 hv1245 (by decide)) (by omega)
                      · refine ur_ldA rfl rfl ?_
                        refine ur_ldI rfl rfl ?_
                        refine ur_ldA rfl rfl ?_
                        obtain ⟨fs1262, hc1263⟩ := hO1245.mod
                        refine ur_get rfl hc1263 (mf_35 hO1245 hc1263) ?_
                        refine ur_ldI rfl rfl ?_
                        refine ur_aldV rfl (hv1245.ka (n := 10) hc1231 hn1233 rfl (by decide) (wid_f (by decide)) (by decide)) hn1233 (by omega) (fun x1264 hx1265 => ?_)
                        obtain rfl : x1235 = x1264 := Option.some.inj (hx1236.symm.trans hx1265)
                        refine ur_ldI rfl rfl ?_
                        obtain ⟨f1266, p1267, t1268⟩ := mf_4 hO1245 hc1263
                        have t1269 := fI_of hc1263 p1267
                        have t1270 := fI_keep (k := 4) hO0 hO1245 (hu19.tr (hu49.tr (hu1201.tr hu1245))) rfl (by decide)
                        have t1271 := fI_keep (k := 38) hO0 hO1245 (hu19.tr (hu49.tr (hu1201.tr hu1245))) rfl (by decide)
                        refine ur_inl rfl (rcv_of hc1263) (Nat.le_of_ble_eq_true rfl) (Nat.le_of_ble_eq_true rfl) (sd_X12_seenBy hO1245 (hX0.un hO0 hO1245 (hu19.tr (hu49.tr (hu1201.tr hu1245))) (by decide)) _ (by show 0 ≤ a3.toInt ∧ a3.toInt ≤ 11; omega) _ _ (px1202.un hO1201 hO1245 hv1245 (by decide)) (by omega) (fun w1272 h1275 hr1273 hO1275 hv1275 hp1274 => ?_))
                        have hu1275 : un [80, 81, 7961, 7962] h1245 h1275 := hv1275.mono (by decide)
                        obtain ⟨x1276, rfl, t1277⟩ := hr1273
                        show uRun _ (uCall Mt _) _ 171 (_, [(.inl x1276)], _, _, _)
                        refine ur_push rfl ?_
                        refine ur_if2 rfl (fun c1278 => ?_) (fun c1278 => ?_)
                        · have t1279 := lt_to c1278
                          refine ur_ldA rfl rfl ?_
                          refine ur_ldI rfl rfl ?_
                          obtain ⟨fs1280, hc1281⟩ := hO1275.mod
                          obtain ⟨f1282, p1283⟩ := mf_61 hO1275 hc1281
                          refine ur_putM (W := [7961]) rfl hO1275 hc1281 (by decide) rfl (ms_61 (hO1275.msh hc1281)) (Or.inr (by decide)) (fun h1285 hO1285 hv1285 d1284 hc1286 => ?_)
                          have hu1285 : un [80, 81, 7961, 7962] h1275 h1285 := hv1285.mono (by decide)
                          refine ur_ldA rfl rfl ?_
                          refine ur_ldA rfl rfl ?_
                          refine ur_get rfl hc1286 (mf_35 hO1285 hc1286) ?_
                          refine ur_ldI rfl rfl ?_
                          refine ur_aldV rfl ((d1284 _ (by decide)).trans (hv1275.ka (n := 10) (hv1245.ka (n := 10) hc1231 hn1233 rfl (by decide) (wid_f (by decide)) (by decide)) hn1233 rfl (by decide) (wid_f (by decide)) (by decide))) hn1233 (by omega) (fun x1287 hx1288 => ?_)
                          obtain rfl : x1235 = x1287 := Option.some.inj (hx1236.symm.trans hx1288)
                          obtain ⟨f1289, p1290⟩ := mf_62 hO1285 hc1286
                          refine ur_putM (W := [7962]) rfl hO1285 hc1286 (by decide) rfl (ms_62 (hO1285.msh hc1286)) (Or.inr (by decide)) (fun h1292 hO1292 hv1292 d1291 hc1293 => ?_)
                          have hu1292 : un [80, 81, 7961, 7962] h1285 h1292 := hv1292.mono (by decide)
                          refine ur_go rfl ?_
                          refine ur_incV (fun z => [some (.inr (.inr (some 69))), some (.inl a1), some (.inl a2), some (.inl a3), some (.inl z), some (.inl x50), some (.inl x808), some (.inl x1186), some (.inl x1189)]) rfl rfl (fun _ => rfl) (fun x1294 e1295 => ?_)
                          have z1296 := any_r x11
                          have t1297 := ti_add e1295 (by omega) (by omega)
                          refine ur_go rfl ?_
                          obtain ⟨f1298, p1299, t1300⟩ := mf_4 hO1292 hc1293
                          have t1301 := fI_of hc1293 p1299
                          obtain ⟨f1302, p1303, t1304⟩ := mf_38 hO1292 hc1293
                          have t1305 := fI_of hc1293 p1303
                          have z1306 := any_r x1294
                          exact ih18 x1294 _ _ _ _ _ hO1292 (hu19.tr (hu49.tr (hu1201.tr (hu1245.tr (hu1275.tr (hu1285.tr hu1292)))))) (by omega) ((hp1274.un hO1275 hO1285 hv1285 (by decide)).un hO1285 hO1292 hv1292 (by decide)) (by omega)
                        · have t1307 := lt_no c1278
                          refine ur_go rfl ?_
                          refine ur_incV (fun z => [some (.inr (.inr (some 69))), some (.inl a1), some (.inl a2), some (.inl a3), some (.inl x11), some (.inl x50), some (.inl x808), some (.inl x1186), some (.inl z)]) rfl rfl (fun _ => rfl) (fun x1308 e1309 => ?_)
                          have t1310 := ti_add e1309 (by omega) (by omega)
                          refine ur_go rfl ?_
                          obtain ⟨fs1311, hc1312⟩ := hO1275.mod
                          obtain ⟨f1313, p1314, t1315⟩ := mf_4 hO1275 hc1312
                          have t1316 := fI_of hc1312 p1314
                          obtain ⟨f1317, p1318, t1319⟩ := mf_38 hO1275 hc1312
                          have t1320 := fI_of hc1312 p1318
                          have z1321 := any_r x1308
                          exact ih1192 x1308 _ hO1275 (hu1201.tr (hu1245.tr hu1275)) (by omega) hp1274 (by omega)
                    · have t1322 := lt_no c1229
                      refine ur_ldI rfl rfl ?_
                      refine ur_ldA rfl rfl ?_
                      refine ur_get rfl hc1226 p1228 ?_
                      have z1323 := any_r f1227
                      refine ur_if2 rfl (fun c1324 => ?_) (fun c1324 => ?_)
                      · have t1325 := lt_to c1324
                        refine ur_incV (fun z => [some (.inr (.inr (some 69))), some (.inl a1), some (.inl a2), some (.inl a3), some (.inl z), some (.inl x50), some (.inl x808), some (.inl x1186), some (.inl x1189)]) rfl rfl (fun _ => rfl) (fun x1326 e1327 => ?_)
                        have z1328 := any_r x11
                        have t1329 := ti_add e1327 (by omega) (by omega)
                        refine ur_go rfl ?_
                        obtain ⟨f1330, p1331, t1332⟩ := mf_4 hO1201 hc1226
                        have t1333 := fI_of hc1226 p1331
                        obtain ⟨f1334, p1335, t1336⟩ := mf_38 hO1201 hc1226
                        have t1337 := fI_of hc1226 p1335
                        have z1338 := any_r x1326
                        exact ih18 x1326 _ _ _ _ _ hO1201 (hu19.tr (hu49.tr hu1201)) (by omega) px1202 (by omega)
                      · have t1339 := lt_no c1324
                        refine ur_ldI rfl rfl ?_
                        refine ur_ldA rfl rfl ?_
                        refine ur_get rfl hc1226 p1228 ?_
                        refine ur_if2 rfl (fun c1340 => ?_) (fun c1340 => ?_)
                        · have t1341 := ne_to c1340
                          refine ur_ldA rfl rfl ?_
                          refine ur_ldI rfl rfl ?_
                          refine ur_ldI rfl rfl ?_
                          refine ur_ldA rfl rfl ?_
                          refine ur_get rfl hc1226 (mf_35 hO1201 hc1226) ?_
                          refine ur_ldI rfl rfl ?_
                          obtain ⟨xs1343, hc1342, hn1344, he1345⟩ := hO1201.int (hO1201.fix 93 (by decide) rfl)
                          refine ur_aldV rfl hc1342 hn1344 (by omega) (fun x1346 hx1347 => ?_)
                          refine ur_ldI rfl rfl ?_
                          obtain ⟨f1348, p1349, t1350⟩ := mf_4 hO1201 hc1226
                          have t1351 := fI_of hc1226 p1349
                          have t1352 := fI_keep (k := 4) hO0 hO1201 (hu19.tr (hu49.tr hu1201)) rfl (by decide)
                          have t1353 := fI_keep (k := 38) hO0 hO1201 (hu19.tr (hu49.tr hu1201)) rfl (by decide)
                          refine ur_inl rfl (rcv_of hc1226) (Nat.le_of_ble_eq_true rfl) (Nat.le_of_ble_eq_true rfl) (sf_X12_canSee hO1201 (hX0.un hO0 hO1201 (hu19.tr (hu49.tr hu1201)) (by decide)) _ (by show 0 ≤ a2.toInt ∧ a2.toInt ≤ 11; omega) _ _ _ (by omega) (fun w1354 h1356 hr1355 hO1356 hv1356 => ?_))
                          have hu1356 : un [80, 81, 7961, 7962] h1201 h1356 := hv1356.mono (by decide)
                          obtain ⟨b1357, rfl⟩ := hr1355
                          show uRun _ (uCall Mt _) _ 155 (_, [(.inl (bi b1357))], _, _, _)
                          refine ur_eqB rfl (fun c1358 => ?_) (fun c1358 => ?_)
                          · refine ur_incV (fun z => [some (.inr (.inr (some 69))), some (.inl a1), some (.inl a2), some (.inl a3), some (.inl x11), some (.inl x50), some (.inl x808), some (.inl x1186), some (.inl z)]) rfl rfl (fun _ => rfl) (fun x1359 e1360 => ?_)
                            have t1361 := ti_add e1360 (by omega) (by omega)
                            refine ur_go rfl ?_
                            obtain ⟨fs1362, hc1363⟩ := hO1356.mod
                            obtain ⟨f1364, p1365, t1366⟩ := mf_4 hO1356 hc1363
                            have t1367 := fI_of hc1363 p1365
                            obtain ⟨f1368, p1369, t1370⟩ := mf_38 hO1356 hc1363
                            have t1371 := fI_of hc1363 p1369
                            have z1372 := any_r x1359
                            exact ih1192 x1359 _ hO1356 (hu1201.tr hu1356) (by omega) (px1202.un hO1201 hO1356 hv1356 (by decide)) (by omega)
                          · refine ur_ldA rfl rfl ?_
                            refine ur_ldI rfl rfl ?_
                            refine ur_ldA rfl rfl ?_
                            obtain ⟨fs1373, hc1374⟩ := hO1356.mod
                            refine ur_get rfl hc1374 (mf_35 hO1356 hc1374) ?_
                            refine ur_ldI rfl rfl ?_
                            refine ur_aldV rfl (hv1356.ka (n := 10) hc1342 hn1344 rfl (by decide) (wid_f (by decide)) (by decide)) hn1344 (by omega) (fun x1375 hx1376 => ?_)
                            obtain rfl : x1346 = x1375 := Option.some.inj (hx1347.symm.trans hx1376)
                            refine ur_ldI rfl rfl ?_
                            obtain ⟨f1377, p1378, t1379⟩ := mf_4 hO1356 hc1374
                            have t1380 := fI_of hc1374 p1378
                            have t1381 := fI_keep (k := 4) hO0 hO1356 (hu19.tr (hu49.tr (hu1201.tr hu1356))) rfl (by decide)
                            have t1382 := fI_keep (k := 38) hO0 hO1356 (hu19.tr (hu49.tr (hu1201.tr hu1356))) rfl (by decide)
                            refine ur_inl rfl (rcv_of hc1374) (Nat.le_of_ble_eq_true rfl) (Nat.le_of_ble_eq_true rfl) (sd_X12_seenBy hO1356 (hX0.un hO0 hO1356 (hu19.tr (hu49.tr (hu1201.tr hu1356))) (by decide)) _ (by show 0 ≤ a3.toInt ∧ a3.toInt ≤ 11; omega) _ _ (px1202.un hO1201 hO1356 hv1356 (by decide)) (by omega) (fun w1383 h1386 hr1384 hO1386 hv1386 hp1385 => ?_))
                            have hu1386 : un [80, 81, 7961, 7962] h1356 h1386 := hv1386.mono (by decide)
                            obtain ⟨x1387, rfl, t1388⟩ := hr1384
                            show uRun _ (uCall Mt _) _ 171 (_, [(.inl x1387)], _, _, _)
                            refine ur_push rfl ?_
                            refine ur_if2 rfl (fun c1389 => ?_) (fun c1389 => ?_)
                            · have t1390 := lt_to c1389
                              refine ur_ldA rfl rfl ?_
                              refine ur_ldI rfl rfl ?_
                              obtain ⟨fs1391, hc1392⟩ := hO1386.mod
                              obtain ⟨f1393, p1394⟩ := mf_61 hO1386 hc1392
                              refine ur_putM (W := [7961]) rfl hO1386 hc1392 (by decide) rfl (ms_61 (hO1386.msh hc1392)) (Or.inr (by decide)) (fun h1396 hO1396 hv1396 d1395 hc1397 => ?_)
                              have hu1396 : un [80, 81, 7961, 7962] h1386 h1396 := hv1396.mono (by decide)
                              refine ur_ldA rfl rfl ?_
                              refine ur_ldA rfl rfl ?_
                              refine ur_get rfl hc1397 (mf_35 hO1396 hc1397) ?_
                              refine ur_ldI rfl rfl ?_
                              refine ur_aldV rfl ((d1395 _ (by decide)).trans (hv1386.ka (n := 10) (hv1356.ka (n := 10) hc1342 hn1344 rfl (by decide) (wid_f (by decide)) (by decide)) hn1344 rfl (by decide) (wid_f (by decide)) (by decide))) hn1344 (by omega) (fun x1398 hx1399 => ?_)
                              obtain rfl : x1346 = x1398 := Option.some.inj (hx1347.symm.trans hx1399)
                              obtain ⟨f1400, p1401⟩ := mf_62 hO1396 hc1397
                              refine ur_putM (W := [7962]) rfl hO1396 hc1397 (by decide) rfl (ms_62 (hO1396.msh hc1397)) (Or.inr (by decide)) (fun h1403 hO1403 hv1403 d1402 hc1404 => ?_)
                              have hu1403 : un [80, 81, 7961, 7962] h1396 h1403 := hv1403.mono (by decide)
                              refine ur_go rfl ?_
                              refine ur_incV (fun z => [some (.inr (.inr (some 69))), some (.inl a1), some (.inl a2), some (.inl a3), some (.inl z), some (.inl x50), some (.inl x808), some (.inl x1186), some (.inl x1189)]) rfl rfl (fun _ => rfl) (fun x1405 e1406 => ?_)
                              have z1407 := any_r x11
                              have t1408 := ti_add e1406 (by omega) (by omega)
                              refine ur_go rfl ?_
                              obtain ⟨f1409, p1410, t1411⟩ := mf_4 hO1403 hc1404
                              have t1412 := fI_of hc1404 p1410
                              obtain ⟨f1413, p1414, t1415⟩ := mf_38 hO1403 hc1404
                              have t1416 := fI_of hc1404 p1414
                              have z1417 := any_r x1405
                              exact ih18 x1405 _ _ _ _ _ hO1403 (hu19.tr (hu49.tr (hu1201.tr (hu1356.tr (hu1386.tr (hu1396.tr hu1403)))))) (by omega) ((hp1385.un hO1386 hO1396 hv1396 (by decide)).un hO1396 hO1403 hv1403 (by decide)) (by omega)
                            · have t1418 := lt_no c1389
                              refine ur_go rfl ?_
                              refine ur_incV (fun z => [some (.inr (.inr (some 69))), some (.inl a1), some (.inl a2), some (.inl a3), some (.inl x11), some (.inl x50), some (.inl x808), some (.inl x1186), some (.inl z)]) rfl rfl (fun _ => rfl) (fun x1419 e1420 => ?_)
                              have t1421 := ti_add e1420 (by omega) (by omega)
                              refine ur_go rfl ?_
                              obtain ⟨fs1422, hc1423⟩ := hO1386.mod
                              obtain ⟨f1424, p1425, t1426⟩ := mf_4 hO1386 hc1423
                              have t1427 := fI_of hc1423 p1425
                              obtain ⟨f1428, p1429, t1430⟩ := mf_38 hO1386 hc1423
                              have t1431 := fI_of hc1423 p1429
                              have z1432 := any_r x1419
                              exact ih1192 x1419 _ hO1386 (hu1201.tr (hu1356.tr hu1386)) (by omega) hp1385 (by omega)
                        · have t1433 := ne_no c1340
                          refine ur_ldA rfl rfl ?_
                          refine ur_get rfl hc1226 (mf_35 hO1201 hc1226) ?_
                          refine ur_ldI rfl rfl ?_
                          obtain ⟨xs1435, hc1434, hn1436, he1437⟩ := hO1201.int (hO1201.fix 93 (by decide) rfl)
                          refine ur_aldV rfl hc1434 hn1436 (by omega) (fun x1438 hx1439 => ?_)
                          refine ur_ldA rfl rfl ?_
                          obtain ⟨f1440, p1441⟩ := mf_62 hO1201 hc1226
                          refine ur_get rfl hc1226 p1441 ?_
                          have z1442 := any_r x1438
                          have z1443 := any_r f1440
                          refine ur_if2 rfl (fun c1444 => ?_) (fun c1444 => ?_)
                          · have t1445 := lt_to c1444
                            refine ur_ldA rfl rfl ?_
                            refine ur_ldI rfl rfl ?_
                            refine ur_ldI rfl rfl ?_
                            refine ur_ldA rfl rfl ?_
                            refine ur_get rfl hc1226 (mf_35 hO1201 hc1226) ?_
                            refine ur_ldI rfl rfl ?_
                            refine ur_aldV rfl hc1434 hn1436 (by omega) (fun x1446 hx1447 => ?_)
                            obtain rfl : x1438 = x1446 := Option.some.inj (hx1439.symm.trans hx1447)
                            refine ur_ldI rfl rfl ?_
                            obtain ⟨f1448, p1449, t1450⟩ := mf_4 hO1201 hc1226
                            have t1451 := fI_of hc1226 p1449
                            have t1452 := fI_keep (k := 4) hO0 hO1201 (hu19.tr (hu49.tr hu1201)) rfl (by decide)
                            have t1453 := fI_keep (k := 38) hO0 hO1201 (hu19.tr (hu49.tr hu1201)) rfl (by decide)
                            refine ur_inl rfl (rcv_of hc1226) (Nat.le_of_ble_eq_true rfl) (Nat.le_of_ble_eq_true rfl) (sf_X12_canSee hO1201 (hX0.un hO0 hO1201 (hu19.tr (hu49.tr hu1201)) (by decide)) _ (by show 0 ≤ a2.toInt ∧ a2.toInt ≤ 11; omega) _ _ _ (by omega) (fun w1454 h1456 hr1455 hO1456 hv1456 => ?_))
                            have hu1456 : un [80, 81, 7961, 7962] h1201 h1456 := hv1456.mono (by decide)
                            obtain ⟨b1457, rfl⟩ := hr1455
                            show uRun _ (uCall Mt _) _ 155 (_, [(.inl (bi b1457))], _, _, _)
                            refine ur_eqB rfl (fun c1458 => ?_) (fun c1458 => ?_)
                            · refine ur_incV (fun z => [some (.inr (.inr (some 69))), some (.inl a1), some (.inl a2), some (.inl a3), some (.inl x11), some (.inl x50), some (.inl x808), some (.inl x1186), some (.inl z)]) rfl rfl (fun _ => rfl) (fun x1459 e1460 => ?_)
                              have t1461 := ti_add e1460 (by omega) (by omega)
                              refine ur_go rfl ?_
                              obtain ⟨fs1462, hc1463⟩ := hO1456.mod
                              obtain ⟨f1464, p1465, t1466⟩ := mf_4 hO1456 hc1463
                              have t1467 := fI_of hc1463 p1465
                              obtain ⟨f1468, p1469, t1470⟩ := mf_38 hO1456 hc1463
                              have t1471 := fI_of hc1463 p1469
                              have z1472 := any_r x1459
                              exact ih1192 x1459 _ hO1456 (hu1201.tr hu1456) (by omega) (px1202.un hO1201 hO1456 hv1456 (by decide)) (by omega)
                            · refine ur_ldA rfl rfl ?_
                              refine ur_ldI rfl rfl ?_
                              refine ur_ldA rfl rfl ?_
                              obtain ⟨fs1473, hc1474⟩ := hO1456.mod
                              refine ur_get rfl hc1474 (mf_35 hO1456 hc1474) ?_
                              refine ur_ldI rfl rfl ?_
                              refine ur_aldV rfl (hv1456.ka (n := 10) hc1434 hn1436 rfl (by decide) (wid_f (by decide)) (by decide)) hn1436 (by omega) (fun x1475 hx1476 => ?_)
                              obtain rfl : x1438 = x1475 := Option.some.inj (hx1439.symm.trans hx1476)
                              refine ur_ldI rfl rfl ?_
                              obtain ⟨f1477, p1478, t1479⟩ := mf_4 hO1456 hc1474
                              have t1480 := fI_of hc1474 p1478
                              have t1481 := fI_keep (k := 4) hO0 hO1456 (hu19.tr (hu49.tr (hu1201.tr hu1456))) rfl (by decide)
                              have t1482 := fI_keep (k := 38) hO0 hO1456 (hu19.tr (hu49.tr (hu1201.tr hu1456))) rfl (by decide)
                              refine ur_inl rfl (rcv_of hc1474) (Nat.le_of_ble_eq_true rfl) (Nat.le_of_ble_eq_true rfl) (sd_X12_seenBy hO1456 (hX0.un hO0 hO1456 (hu19.tr (hu49.tr (hu1201.tr hu1456))) (by decide)) _ (by show 0 ≤ a3.toInt ∧ a3.toInt ≤ 11; omega) _ _ (px1202.un hO1201 hO1456 hv1456 (by decide)) (by omega) (fun w1483 h1486 hr1484 hO1486 hv1486 hp1485 => ?_))
                              have hu1486 : un [80, 81, 7961, 7962] h1456 h1486 := hv1486.mono (by decide)
                              obtain ⟨x1487, rfl, t1488⟩ := hr1484
                              show uRun _ (uCall Mt _) _ 171 (_, [(.inl x1487)], _, _, _)
                              refine ur_push rfl ?_
                              refine ur_if2 rfl (fun c1489 => ?_) (fun c1489 => ?_)
                              · have t1490 := lt_to c1489
                                refine ur_ldA rfl rfl ?_
                                refine ur_ldI rfl rfl ?_
                                obtain ⟨fs1491, hc1492⟩ := hO1486.mod
                                obtain ⟨f1493, p1494⟩ := mf_61 hO1486 hc1492
                                refine ur_putM (W := [7961]) rfl hO1486 hc1492 (by decide) rfl (ms_61 (hO1486.msh hc1492)) (Or.inr (by decide)) (fun h1496 hO1496 hv1496 d1495 hc1497 => ?_)
                                have hu1496 : un [80, 81, 7961, 7962] h1486 h1496 := hv1496.mono (by decide)
                                refine ur_ldA rfl rfl ?_
                                refine ur_ldA rfl rfl ?_
                                refine ur_get rfl hc1497 (mf_35 hO1496 hc1497) ?_
                                refine ur_ldI rfl rfl ?_
                                refine ur_aldV rfl ((d1495 _ (by decide)).trans (hv1486.ka (n := 10) (hv1456.ka (n := 10) hc1434 hn1436 rfl (by decide) (wid_f (by decide)) (by decide)) hn1436 rfl (by decide) (wid_f (by decide)) (by decide))) hn1436 (by omega) (fun x1498 hx1499 => ?_)
                                obtain rfl : x1438 = x1498 := Option.some.inj (hx1439.symm.trans hx1499)
                                obtain ⟨f1500, p1501⟩ := mf_62 hO1496 hc1497
                                refine ur_putM (W := [7962]) rfl hO1496 hc1497 (by decide) rfl (ms_62 (hO1496.msh hc1497)) (Or.inr (by decide)) (fun h1503 hO1503 hv1503 d1502 hc1504 => ?_)
                                have hu1503 : un [80, 81, 7961, 7962] h1496 h1503 := hv1503.mono (by decide)
                                refine ur_go rfl ?_
                                refine ur_incV (fun z => [some (.inr (.inr (some 69))), some (.inl a1), some (.inl a2), some (.inl a3), some (.inl z), some (.inl x50), some (.inl x808), some (.inl x1186), some (.inl x1189)]) rfl rfl (fun _ => rfl) (fun x1505 e1506 => ?_)
                                have z1507 := any_r x11
                                have t1508 := ti_add e1506 (by omega) (by omega)
                                refine ur_go rfl ?_
                                obtain ⟨f1509, p1510, t1511⟩ := mf_4 hO1503 hc1504
                                have t1512 := fI_of hc1504 p1510
                                obtain ⟨f1513, p1514, t1515⟩ := mf_38 hO1503 hc1504
                                have t1516 := fI_of hc1504 p1514
                                have z1517 := any_r x1505
                                exact ih18 x1505 _ _ _ _ _ hO1503 (hu19.tr (hu49.tr (hu1201.tr (hu1456.tr (hu1486.tr (hu1496.tr hu1503)))))) (by omega) ((hp1485.un hO1486 hO1496 hv1496 (by decide)).un hO1496 hO1503 hv1503 (by decide)) (by omega)
                              · have t1518 := lt_no c1489
                                refine ur_go rfl ?_
                                refine ur_incV (fun z => [some (.inr (.inr (some 69))), some (.inl a1), some (.inl a2), some (.inl a3), some (.inl x11), some (.inl x50), some (.inl x808), some (.inl x1186), some (.inl z)]) rfl rfl (fun _ => rfl) (fun x1519 e1520 => ?_)
                                have t1521 := ti_add e1520 (by omega) (by omega)
                                refine ur_go rfl ?_
                                obtain ⟨fs1522, hc1523⟩ := hO1486.mod
                                obtain ⟨f1524, p1525, t1526⟩ := mf_4 hO1486 hc1523
                                have t1527 := fI_of hc1523 p1525
                                obtain ⟨f1528, p1529, t1530⟩ := mf_38 hO1486 hc1523
                                have t1531 := fI_of hc1523 p1529
                                have z1532 := any_r x1519
                                exact ih1192 x1519 _ hO1486 (hu1201.tr (hu1456.tr hu1486)) (by omega) hp1485 (by omega)
                          · have t1533 := lt_no c1444
                            refine ur_go rfl ?_
                            refine ur_incV (fun z => [some (.inr (.inr (some 69))), some (.inl a1), some (.inl a2), some (.inl a3), some (.inl z), some (.inl x50), some (.inl x808), some (.inl x1186), some (.inl x1189)]) rfl rfl (fun _ => rfl) (fun x1534 e1535 => ?_)
                            have z1536 := any_r x11
                            have t1537 := ti_add e1535 (by omega) (by omega)
                            refine ur_go rfl ?_
                            obtain ⟨f1538, p1539, t1540⟩ := mf_4 hO1201 hc1226
                            have t1541 := fI_of hc1226 p1539
                            obtain ⟨f1542, p1543, t1544⟩ := mf_38 hO1201 hc1226
                            have t1545 := fI_of hc1226 p1543
                            have z1546 := any_r x1534
                            exact ih18 x1534 _ _ _ _ _ hO1201 (hu19.tr (hu49.tr hu1201)) (by omega) px1202 (by omega)
              have z1547 := any_r x808
              exact L1190 _ x808 _ hO49 un.rf (by omega) hp48 (Nat.lt_succ_self _)
        · have t1548 := le_no c52
          refine ur_go rfl ?_
          refine ur_incV (fun z => [some (.inr (.inr (some 69))), some (.inl a1), some (.inl a2), some (.inl a3), some (.inl z), some (.inl x50), u13, u14, u15]) rfl rfl (fun _ => rfl) (fun x1549 e1550 => ?_)
          have z1551 := any_r x11
          have t1552 := ti_add e1550 (by omega) (by omega)
          refine ur_go rfl ?_
          obtain ⟨fs1553, hc1554⟩ := hO49.mod
          obtain ⟨f1555, p1556, t1557⟩ := mf_4 hO49 hc1554
          have t1558 := fI_of hc1554 p1556
          obtain ⟨f1559, p1560, t1561⟩ := mf_38 hO49 hc1554
          have t1562 := fI_of hc1554 p1560
          have z1563 := any_r x1549
          exact ih18 x1549 _ _ _ _ _ hO49 (hu19.tr hu49) (by omega) hp48 (by omega)
  exact L16 _ (-60) (none) (none) (none) (none) _ hO0 un.rf (by omega) pre0 (Nat.lt_succ_self _)

set_option maxRecDepth 20000 in
set_option maxHeartbeats 4000000 in
theorem sd_X12_next {d kc ks : Nat} {h0 : aH} {Q : Option aV → aH → Prop} (hO0 : OK h0) (hX0 : SX h0) (a1 : Int32) (a2 : Int32) (a3 : Int32) (pre0 : SKm h0) (hQ : ∀ r h', (∃ x, r = some (.inl x)) → OK h' → un [80, 81, 7961, 7962] h0 h' → (SKm h') → Q r h') : uCall Mt (d + 8) 282 [(.inr (.inr (some 69))), (.inl a1), (.inl a2), (.inl a3)] h0 kc ks Q := by
  have l_m2 : ((-2) : Int32).toInt = -2 := by decide
  have l_m1 : ((-1) : Int32).toInt = -1 := by decide
  have l_0 : ((0) : Int32).toInt = 0 := by decide
  have l_1 : ((1) : Int32).toInt = 1 := by decide
  refine uc_ink [some (.inr (.inr (some 69))), some (.inl a1), some (.inl a2), some (.inl a3), none] mt_282 (Nat.le_of_ble_eq_true rfl) rfl ?_
  obtain ⟨fs1, hc2⟩ := hO0.mod
  obtain ⟨f3, p4, t5⟩ := mf_4 hO0 hc2
  have t6 := fI_of hc2 p4
  obtain ⟨f7, p8, t9⟩ := mf_38 hO0 hc2
  have t10 := fI_of hc2 p8
  refine ur_ldA rfl rfl ?_
  refine ur_ldI rfl rfl ?_
  refine ur_inl rfl (rcv_of hc2) (Nat.le_of_ble_eq_true rfl) (Nat.le_of_ble_eq_true rfl) (sg_isComet hO0 _ (fun w11 hr12 => ?_))
  obtain ⟨b13, rfl, t14⟩ := hr12
  show uRun _ (uCall Mt _) _ 5 (_, [(.inl (bi b13))], _, _, _)
  refine ur_eqB rfl (fun c15 => ?_) (fun c15 => ?_)
  · clear t14
    refine ur_push rfl ?_
    exact ur_ret rfl rfl (hQ _ _ ⟨_, rfl⟩ hO0 un.rf pre0)
  · have t16 := t14 c15
    clear t14
    refine ur_ldA rfl rfl ?_
    refine ur_ldI rfl rfl ?_
    refine ur_inl rfl (rcv_of hc2) (Nat.le_of_ble_eq_true rfl) (Nat.le_of_ble_eq_true rfl) (sg_isComet hO0 _ (fun w17 hr18 => ?_))
    obtain ⟨b19, rfl, t20⟩ := hr18
    show uRun _ (uCall Mt _) _ 13 (_, [(.inl (bi b19))], _, _, _)
    refine ur_eqB rfl (fun c21 => ?_) (fun c21 => ?_)
    · clear t20
      refine ur_push rfl ?_
      exact ur_ret rfl rfl (hQ _ _ ⟨_, rfl⟩ hO0 un.rf pre0)
    · have t22 := t20 c21
      clear t20
      refine ur_ldI rfl rfl ?_
      refine ur_ldI rfl rfl ?_
      have z23 := any_r a1
      have z24 := any_r a2
      refine ur_if2 rfl (fun c25 => ?_) (fun c25 => ?_)
      · have t26 := eq_to c25
        refine ur_push rfl ?_
        exact ur_ret rfl rfl (hQ _ _ ⟨_, rfl⟩ hO0 un.rf pre0)
      · have t27 := eq_no c25
        refine ur_ldI rfl rfl ?_
        refine ur_push rfl ?_
        refine ur_push rfl ?_
        refine ur_callv rfl rfl (Nat.le_of_ble_eq_true rfl) (Nat.le_of_ble_eq_true rfl) rfl (sp_in _ _ _ _ _) ?_
        refine ur_neB rfl (fun c30 => ?_) (fun c30 => ?_)
        · have t31 := wi_toL c30 l_0 l_1
          refine ur_ldA rfl rfl ?_
          refine ur_push rfl ?_
          obtain ⟨f32, p33⟩ := mf_61 hO0 hc2
          refine ur_putM (W := [7961]) rfl hO0 hc2 (by decide) rfl (ms_61 (hO0.msh hc2)) (Or.inr (by decide)) (fun h35 hO35 hv35 d34 hc36 => ?_)
          have hu35 : un [80, 81, 7961, 7962] h0 h35 := hv35.mono (by decide)
          have t37 := fI_of hc36 (gs_ne p4 (by decide))
          have t38 := fI_of hc36 (gs_ne p8 (by decide))
          refine ur_ldA rfl rfl ?_
          refine ur_push rfl ?_
          obtain ⟨f39, p40⟩ := mf_62 hO35 hc36
          refine ur_putM (W := [7962]) rfl hO35 hc36 (by decide) rfl (ms_62 (hO35.msh hc36)) (Or.inr (by decide)) (fun h42 hO42 hv42 d41 hc43 => ?_)
          have hu42 : un [80, 81, 7961, 7962] h35 h42 := hv42.mono (by decide)
          have t44 := fI_of hc43 (gs_ne (gs_ne p4 (by decide)) (by decide))
          have t45 := fI_of hc43 (gs_ne (gs_ne p8 (by decide)) (by decide))
          refine ur_push rfl ?_
          refine ur_svIk [some (.inr (.inr (some 69))), some (.inl a1), some (.inl a2), some (.inl a3), some (.inl 0)] rfl rfl ?_
          have L47 : ∀ (m48 : Nat) (x46 : Int32) (h50 : aH) , OK h50 → un [80, 81, 7961, 7962] h42 h50 → ((0 ≤ x46.toInt ∧ x46.toInt ≤ 2147483647)) → (SKm h50) → ((2147483648 - x46.toInt).toNat) < m48 → uRun oX12_next (uCall Mt (d + 7)) Q 47 ([some (.inr (.inr (some 69))), some (.inl a1), some (.inl a2), some (.inl a3), some (.inl x46)], [], h50, kc, ks) := by
            intro m48
            induction m48 with
            | zero => intro x46 h50 hO50 hu50 iv52 px51 mm53; omega
            | succ m48 ih49 =>
              intro x46 h50 hO50 hu50 iv52 px51 mm53
              refine ur_ldI rfl rfl ?_
              refine ur_ldA rfl rfl ?_
              obtain ⟨fs54, hc55⟩ := hO50.mod
              obtain ⟨f56, p57, t58⟩ := mf_34 hO50 hc55
              refine ur_get rfl hc55 p57 ?_
              have z59 := any_r x46
              have z60 := any_r f56
              refine ur_if2 rfl (fun c61 => ?_) (fun c61 => ?_)
              · have t62 := le_to c61
                refine ur_ldI rfl rfl ?_
                refine ur_if1 rfl (fun c63 => ?_) (fun c63 => ?_)
                · have t64 := ne_to c63
                  refine ur_ldA rfl rfl ?_
                  obtain ⟨f65, p66⟩ := mf_62 hO50 hc55
                  refine ur_get rfl hc55 p66 ?_
                  obtain ⟨f67, p68, t69⟩ := mf_4 hO50 hc55
                  have t70 := fI_of hc55 p68
                  obtain ⟨f71, p72, t73⟩ := mf_38 hO50 hc55
                  have t74 := fI_of hc55 p72
                  have t75 := fI_keep (k := 4) hO0 hO50 (hu35.tr (hu42.tr hu50)) rfl (by decide)
                  have t76 := fI_keep (k := 38) hO0 hO50 (hu35.tr (hu42.tr hu50)) rfl (by decide)
                  exact ur_ret rfl rfl (hQ _ _ ⟨_, rfl⟩ hO50 (hu35.tr (hu42.tr hu50)) px51)
                · have t77 := ne_no c63
                  refine ur_ldA rfl rfl ?_
                  obtain ⟨f78, p79⟩ := mf_61 hO50 hc55
                  refine ur_get rfl hc55 p79 ?_
                  refine ur_go rfl ?_
                  obtain ⟨f80, p81, t82⟩ := mf_4 hO50 hc55
                  have t83 := fI_of hc55 p81
                  obtain ⟨f84, p85, t86⟩ := mf_38 hO50 hc55
                  have t87 := fI_of hc55 p85
                  have t88 := fI_keep (k := 4) hO0 hO50 (hu35.tr (hu42.tr hu50)) rfl (by decide)
                  have t89 := fI_keep (k := 38) hO0 hO50 (hu35.tr (hu42.tr hu50)) rfl (by decide)
                  exact ur_ret rfl rfl (hQ _ _ ⟨_, rfl⟩ hO50 (hu35.tr (hu42.tr hu50)) px51)
              · have t90 := le_no c61
                refine ur_ldA rfl rfl ?_
                refine ur_ldI rfl rfl ?_
                refine ur_ldI rfl rfl ?_
                refine ur_ldI rfl rfl ?_
                obtain ⟨f91, p92, t93⟩ := mf_4 hO50 hc55
                have t94 := fI_of hc55 p92
                obtain ⟨f95, p96, t97⟩ := mf_38 hO50 hc55
                have t98 := fI_of hc55 p96
                have t99 := fI_keep (k := 4) hO0 hO50 (hu35.tr (hu42.tr hu50)) rfl (by decide)
                have t100 := fI_keep (k := 38) hO0 hO50 (hu35.tr (hu42.tr hu50)) rfl (by decide)
                refine ur_inl rfl (rcv_of hc55) (Nat.le_of_ble_eq_true rfl) (Nat.le_of_ble_eq_true rfl) (sd_X12_lookOut hO50 (hX0.un hO0 hO50 (hu35.tr (hu42.tr hu50)) (by decide)) _ (by show 0 ≤ x46.toInt ∧ x46.toInt ≤ 9; omega) _ (by show 0 ≤ a1.toInt ∧ a1.toInt ≤ 11; omega) _ (by show 0 ≤ a2.toInt ∧ a2.toInt ≤ 11; omega) px51 (by omega) (by omega) (fun w101 h104 hr102 hO104 hv104 hp103 => ?_))
                have hu104 := hv104
                subst hr102
                show uRun _ (uCall Mt _) _ 64 (_, [], _, _, _)
                refine ur_incV (fun z => [some (.inr (.inr (some 69))), some (.inl a1), some (.inl a2), some (.inl a3), some (.inl z)]) rfl rfl (fun _ => rfl) (fun x105 e106 => ?_)
                have t107 := ti_add e106 (by omega) (by omega)
                refine ur_go rfl ?_
                obtain ⟨fs108, hc109⟩ := hO104.mod
                obtain ⟨f110, p111, t112⟩ := mf_4 hO104 hc109
                have t113 := fI_of hc109 p111
                obtain ⟨f114, p115, t116⟩ := mf_38 hO104 hc109
                have t117 := fI_of hc109 p115
                have z118 := any_r x105
                exact ih49 x105 _ hO104 (hu50.tr hu104) (by omega) hp103 (by omega)
          exact L47 _ 0 _ hO42 un.rf (by omega) ((pre0.un hO0 hO35 hv35 (by decide)).un hO35 hO42 hv42 (by decide)) (Nat.lt_succ_self _)
        · have t119 := wi_noL c30 l_0 l_1
          refine ur_push rfl ?_
          exact ur_ret rfl rfl (hQ _ _ ⟨_, rfl⟩ hO0 un.rf pre0)
end SKY8
