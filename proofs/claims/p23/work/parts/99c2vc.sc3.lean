/-! JUDGE AND BEST: sc3 -/
section WSC3
set_option maxRecDepth 20000 in
set_option maxHeartbeats 4000000 in
theorem sz_X7_weighComet {d kc ks : Nat} {h0 : aH} {Q : Option aV → aH → Prop} {ls : List (List (Int × Int) × List (Int × Int))} {l1 : List (List (Int × Int) × List (Int × Int))} (hO0 : OK h0) (a1 : Int32) (pre0 : NA h0) (pre1 : SGc ls h0) (pre2 : SKc h0) (pre3 : txC h0 9 = cfl 0 ls) (pre4 : ∀ l ∈ ls, lnG l) (pre5 : txC h0 11 = cfl 0 l1) (pre6 : ∀ l ∈ l1, lnG l) (pre7 : RTW h0) (pre8 : LDw h0) (pre9 : NBw h0) (pre10 : WTr ls l1 h0 h0) (hQ : ∀ r h', (r = none) → OK h' → un [45, 46, 222, 223, 21212] h0 h' → (SGc ls h') → (WTr ls l1 h0 h') → (∀ c : Int, 0 ≤ c → c < 12 → gI h0 46 c ≠ -1 → gI h' 46 c ≠ -1) → ((0 ≤ a1.toInt ∧ a1.toInt < fO h0 1 4) → gI h' 46 a1.toInt ≠ -1) → Q r h') : uCall Mt (d + 7) 75 [(.inr (.inr (some 41))), (.inl a1)] h0 kc ks Q := by
  have l_m120 : ((-120) : Int32).toInt = -120 := by decide
  have l_m1 : ((-1) : Int32).toInt = -1 := by decide
  have l_0 : ((0) : Int32).toInt = 0 := by decide
  have l_1 : ((1) : Int32).toInt = 1 := by decide
  have l_3 : ((3) : Int32).toInt = 3 := by decide
  have l_6 : ((6) : Int32).toInt = 6 := by decide
  have l_11 : ((11) : Int32).toInt = 11 := by decide
  have l_63 : ((63) : Int32).toInt = 63 := by decide
  have l_120 : ((120) : Int32).toInt = 120 := by decide
  refine uc_ink [some (.inr (.inr (some 41))), some (.inl a1), none, none, none, none, none] mt_75 (Nat.le_of_ble_eq_true rfl) rfl ?_
  obtain ⟨f2, f3, hc1, k4⟩ := ok_1 hO0
  have t5 := fO_of (k := 4) hc1 rfl
  obtain ⟨f7, f8, f9, f10, hc6, k11⟩ := ok_15 hO0
  have t12 := fO_of (k := 1) hc6 rfl
  refine ur_ldA rfl rfl ?_
  obtain ⟨f14, f15, hc13, k16⟩ := ok_41 hO0
  refine ur_get rfl hc13 rfl ?_
  refine ur_ldI rfl rfl ?_
  refine ur_inl rfl (rcv_of hc1) (Nat.le_of_ble_eq_true rfl) (Nat.le_of_ble_eq_true rfl) (sd_X6_cometAt hO0 _ pre2 (fun w17 hr18 => ?_))
  obtain ⟨o19, rfl, k20, t21, t22⟩ := hr18
  show uRun _ (uCall Mt _) _ 8 (_, [(.inr (.inr o19))], _, _, _)
  refine ur_svAk [some (.inr (.inr (some 41))), some (.inl a1), some (.inr (.inr o19)), none, none, none, none] rfl rfl ?_
  refine ur_ldA rfl rfl ?_
  cases o19 with
  | none =>
    refine ur_nulN rfl ?_
    have t24 := t21 rfl
    exact ur_ret0 rfl (hQ _ _ rfl hO0 un.rf pre1 pre10 (fun _ _ _ q => q) (fun q => by omega))
  | some r23 =>
    refine ur_nulS rfl ?_
    have k25 := k20 _ rfl
    have t26 := t22 _ rfl
    refine ur_ldI rfl rfl ?_
    refine ur_push rfl ?_
    refine ur_push rfl ?_
    refine ur_callv rfl rfl (Nat.le_of_ble_eq_true rfl) (Nat.le_of_ble_eq_true rfl) rfl (sp_within _ _ _ _ _) ?_
    refine ur_eqB rfl (fun c29 => ?_) (fun c29 => ?_)
    · have t30 := wi_noL c29 l_0 l_11
      exact ur_ret0 rfl (hQ _ _ rfl hO0 un.rf pre1 pre10 (fun _ _ _ q => q) (fun q => by omega))
    · have t31 := wi_toL c29 l_0 l_11
      refine ur_ldA rfl rfl ?_
      refine ur_get rfl hc13 rfl ?_
      refine ur_ldI rfl rfl ?_
      obtain ⟨xs33, hc32, hn34, he35⟩ := hO0.int (hO0.fix 46 (by decide) rfl)
      refine ur_aldV rfl hc32 hn34 (by omega) (fun x36 hx37 => ?_)
      have t38 := gI_of (j := a1) hc32 hx37
      refine ur_push rfl ?_
      refine ur_if2 rfl (fun c39 => ?_) (fun c39 => ?_)
      · have t40 := eq_to c39
        obtain ⟨g61, f42, f43, f44, f45, f46, f47, f48, f49, f50, f51, q52, q53, o54, q55, hc41, k56, k57, k58, k59, k60⟩ := hO0.comet k25.2
        have t62 := fO_of (k := 8) hc41 rfl
        have t63 := fO_of (k := 9) hc41 rfl
        have cd64 := (pre1.1 a1.toInt r23 t26.1.1 t26.1.2 t26.2).1
        have wz65 := WTr.un1 pre10 hO0 (i := a1.toInt) (by omega) (by omega)
        refine ur_ldA rfl rfl ?_
        refine ur_get rfl hc13 rfl ?_
        refine ur_ldI rfl rfl ?_
        refine ur_push rfl ?_
        refine ur_astV (W := [46]) (m := 12) rfl hO0 hc32 (by decide) hn34 (by omega) (any_r _) (Or.inr (Or.inr (wid_fix (by decide) (by decide)))) (fun h68 hO68 hv68 d66 hc67 => ?_)
        have hu68 : un [45, 46, 222, 223, 21212] h0 h68 := hv68.mono (by decide)
        have w69 : wI h0 h68 46 ((arI h0 46).set (a1 : Int32).toInt.toNat 0) := ⟨by rw [arI_of hc67, arI_of hc32], d66⟩
        refine ur_ldA rfl rfl ?_
        refine ur_get rfl ((d66 _ (ne_tg (hu68.tm k25.2 (by decide)) (hO68.fix 46 (by decide) rfl) (by decide))).trans hc41) rfl ?_
        refine ur_svIk [some (.inr (.inr (some 41))), some (.inl a1), some (.inr (.inr (some r23))), some (.inl f50), none, none, none] rfl rfl ?_
        have t77 := fO_of (k := 4) ((d66 _ (by decide)).trans hc1) rfl
        have t78 := fO_of (k := 1) ((d66 _ (by decide)).trans hc6) rfl
        have L74 : ∀ (m75 : Nat) (x70 : Int32) (u71 : Option aV) (u72 : Option aV) (u73 : Option aV) (h79 : aH) , OK h79 → un [45, 46, 222, 223, 21212] h68 h79 → ((-60 ≤ x70.toInt ∧ x70.toInt ≤ 61) ∧ fO h0 r23 8 ≤ x70.toInt ∧ x70.toInt ≤ fO h0 r23 9 + 1) → (gI h79 46 a1.toInt = cq (MSz ls l1 h0 r23) (fO h0 r23 8) x70.toInt) → (WBk ls l1 h0 h79 r23 a1.toInt x70.toInt) → (WKo h0 h79 a1.toInt) → (SGc ls h79) → ((62 - x70.toInt).toNat) < m75 → uRun oX7_weighComet (uCall Mt (d + 6)) Q 46 ([some (.inr (.inr (some 41))), some (.inl a1), some (.inr (.inr (some r23))), some (.inl x70), u71, u72, u73], [], h79, kc, ks) := by
          intro m75
          induction m75 with
          | zero => intro x70 u71 u72 u73 h79 hO79 hu79 iv84 px80 px81 px82 px83 mm85; omega
          | succ m75 ih76 =>
            intro x70 u71 u72 u73 h79 hO79 hu79 iv84 px80 px81 px82 px83 mm85
            obtain ⟨g106, f87, f88, f89, f90, f91, f92, f93, f94, f95, f96, q97, q98, o99, q100, hc86, k101, k102, k103, k104, k105⟩ := hO79.comet (hu79.tm (hu68.tm k25.2 (by decide)) (by decide))
            have t107 := fO_of (k := 8) hc86 rfl
            have tt108 : fO h79 r23 8 = fO h0 r23 8 := fO_eA (fC_un hO0 (hu68.tr hu79) g106 k25.2 (k := 8) (by decide) (by decide))
            have t109 := fO_of (k := 9) hc86 rfl
            have tt110 : fO h79 r23 9 = fO h0 r23 9 := fO_eA (fC_un hO0 (hu68.tr hu79) g106 k25.2 (k := 9) (by decide) (by decide))
            refine ur_ldI rfl rfl ?_
            refine ur_ldA rfl rfl ?_
            refine ur_get rfl hc86 rfl ?_
            have tt111 : fO h79 r23 8 = fO h0 r23 8 := fO_eA (fC_un hO0 (hu68.tr hu79) g106 k25.2 (k := 8) (by decide) (by decide))
            have tt112 : fO h79 r23 9 = fO h0 r23 9 := fO_eA (fC_un hO0 (hu68.tr hu79) g106 k25.2 (k := 9) (by decide) (by decide))
            have z113 := any_r x70
            have z114 := any_r f96
            refine ur_if2 rfl (fun c115 => ?_) (fun c115 => ?_)
            · have t116 := lt_to c115
              have t117 := fO_of (k := 4) (hu79.ko (n := 5) ((d66 _ (by decide)).trans hc1) rfl (wid_f (by decide)) (by decide)) rfl
              have t118 := fO_of (k := 1) (hu79.ko (n := 11) ((d66 _ (by decide)).trans hc6) rfl (wid_f (by decide)) (by decide)) rfl
              exact ur_ret0 rfl (hQ _ _ rfl hO79 (hu68.tr hu79) px83 (WTr.mk pre10 px82 (by omega) t26.2 (by rw [show fO h0 r23 9 + 1 = x70.toInt by omega]; exact px80) (by rw [show fO h0 r23 9 + 1 = x70.toInt by omega]; exact px81)) (px82.p2 (by omega)) (fun _ => by have q := cq_r (P := MSz ls l1 h0 r23) (lo := fO h0 r23 8) (m := x70.toInt) (by omega); rw [← px80] at q; omega))
            · have t119 := lt_no c115
              refine ur_ldA rfl rfl ?_
              refine ur_ldA rfl rfl ?_
              refine ur_ldI rfl rfl ?_
              have t120 := fO_of (k := 6) (hu79.ko (n := 15) ((d66 _ (by decide)).trans hc13) rfl (wid_f (by decide)) (by decide)) rfl
              refine ur_inl rfl (rcv_of (hu79.ko (n := 15) ((d66 _ (by decide)).trans hc13) rfl (wid_f (by decide)) (by decide))) (Nat.le_of_ble_eq_true rfl) (Nat.le_of_ble_eq_true rfl) (se_X7_isSurelyWatched hO79 g106 (hu79.tm (hu68.tm k25.2 (by decide)) (by decide)) _ (by show -60 ≤ x70.toInt ∧ x70.toInt ≤ 60; omega) ((pre2.un hO0 hO68 hu68 (by decide)).un hO68 hO79 hu79 (by decide)) px83 (cz_un hO0 hO79 (hu68.tr hu79) t26 (by decide) (by decide)) ((txC_un hO0 hO79 (hu68.tr hu79) (by decide) 9 (by decide)).trans pre3) pre4 (by rw [fO_eA (fC_un hO0 (hu68.tr hu79) g106 k25.2 (k := 8) (by decide) (by decide)), fO_eA (fC_un hO0 (hu68.tr hu79) g106 k25.2 (k := 9) (by decide) (by decide))]; omega) (fun w121 h124 hr122 hO124 hv124 hp123 => ?_))
              have hu124 : un [45, 46, 222, 223, 21212] h79 h124 := hv124.mono (by decide)
              obtain ⟨b125, rfl, t126, t127⟩ := hr122
              show uRun _ (uCall Mt _) _ 60 (_, [(.inl (bi b125))], _, _, _)
              have mi128 := bi_sw (P := SWz ls h0 r23 x70.toInt) (fun q => (SWz.un (ls := ls) (z := r23) (k := x70.toInt) hO0 hO79 (hu68.tr hu79) ⟨g106, k25.2⟩ (by decide)).mp (t126 q)) (fun q p => t127 q ((SWz.un (ls := ls) (z := r23) (k := x70.toInt) hO0 hO79 (hu68.tr hu79) ⟨g106, k25.2⟩ (by decide)).mpr p))
              have tt129 := mi128.2
              refine ur_svIk [some (.inr (.inr (some 41))), some (.inl a1), some (.inr (.inr (some r23))), some (.inl x70), some (.inl (bi b125)), u72, u73] rfl rfl ?_
              refine ur_push rfl ?_
              refine ur_svIk [some (.inr (.inr (some 41))), some (.inl a1), some (.inr (.inr (some r23))), some (.inl x70), some (.inl (bi b125)), some (.inl 0), u73] rfl rfl ?_
              have t136 := fO_of (k := 4) (hv124.ko (n := 5) (hu79.ko (n := 5) ((d66 _ (by decide)).trans hc1) rfl (wid_f (by decide)) (by decide)) rfl (wid_f (by decide)) (by decide)) rfl
              have t137 := fO_of (k := 1) (hv124.ko (n := 11) (hu79.ko (n := 11) ((d66 _ (by decide)).trans hc6) rfl (wid_f (by decide)) (by decide)) rfl (wid_f (by decide)) (by decide)) rfl
              have L133 : ∀ (m134 : Nat) (x130 : Int32) (x131 : Int32) (u132 : Option aV) (h138 : aH) , OK h138 → un [45, 46, 222, 223, 21212] h124 h138 → ((0 ≤ x131.toInt ∧ x131.toInt ≤ 150) ∧ (0 ≤ x130.toInt ∧ x130.toInt ≤ 1) ∧ x131.toInt ≤ fO h0 15 1) → (gI h138 46 a1.toInt = cq (MSz ls l1 h0 r23) (fO h0 r23 8) x70.toInt) → (WBp ls l1 h0 h138 r23 a1.toInt x70.toInt x131.toInt) → (WMs ls l1 h0 r23 x70.toInt x131.toInt x130.toInt) → (WKo h0 h138 a1.toInt) → (SGc ls h138) → ((151 - x131.toInt).toNat) < m134 → uRun oX7_weighComet (uCall Mt (d + 6)) Q 65 ([some (.inr (.inr (some 41))), some (.inl a1), some (.inr (.inr (some r23))), some (.inl x70), some (.inl x130), some (.inl x131), u132], [], h138, kc, ks) := by
                intro m134
                induction m134 with
                | zero => intro x130 x131 u132 h138 hO138 hu138 iv144 px139 px140 px141 px142 px143 mm145; omega
                | succ m134 ih135 =>
                  intro x130 x131 u132 h138 hO138 hu138 iv144 px139 px140 px141 px142 px143 mm145
                  refine ur_ldI rfl rfl ?_
                  refine ur_ldA rfl rfl ?_
                  have hc146 := (hu138.ko (n := 15) (hv124.ko (n := 15) (hu79.ko (n := 15) ((d66 _ (by decide)).trans hc13) rfl (wid_f (by decide)) (by decide)) rfl (wid_f (by decide)) (by decide)) rfl (wid_f (by decide)) (by decide))
                  refine ur_get rfl hc146 rfl ?_
                  have hc147 := (hu138.ko (n := 11) (hv124.ko (n := 11) (hu79.ko (n := 11) ((d66 _ (by decide)).trans hc6) rfl (wid_f (by decide)) (by decide)) rfl (wid_f (by decide)) (by decide)) rfl (wid_f (by decide)) (by decide))
                  refine ur_get rfl hc147 rfl ?_
                  have t148 := fO_of (k := 1) hc147 rfl
                  have z149 := any_r x131
                  have z150 := any_r f7
                  refine ur_if2 rfl (fun c151 => ?_) (fun c151 => ?_)
                  · have t152 := le_to c151
                    refine ur_ldI rfl rfl ?_
                    refine ur_if1 rfl (fun c153 => ?_) (fun c153 => ?_)
                    · have t154 := eq_to c153
                      refine ur_incV (fun z => [some (.inr (.inr (some 41))), some (.inl a1), some (.inr (.inr (some r23))), some (.inl z), some (.inl x130), some (.inl x131), u132]) rfl rfl (fun _ => rfl) (fun x155 e156 => ?_)
                      have t157 := ti_add e156 (by omega) (by omega)
                      refine ur_go rfl ?_
                      have t158 := fO_of (k := 4) (hu138.ko (n := 5) (hv124.ko (n := 5) (hu79.ko (n := 5) ((d66 _ (by decide)).trans hc1) rfl (wid_f (by decide)) (by decide)) rfl (wid_f (by decide)) (by decide)) rfl (wid_f (by decide)) (by decide)) rfl
                      have z159 := any_r x155
                      exact ih76 x155 _ _ _ _ hO138 (hu79.tr (hu124.tr hu138)) (by omega) (by rw [cq_n (lo := fO h0 r23 8) (m := x70.toInt) (m' := x155.toInt) (by omega) (fun q => absurd ((WMs.f px141 (by omega)).mpr q) (by omega)) (by omega)]; exact px139) ((px140.k (by omega) (by omega) (by omega)).e rfl) px142 px143 (by omega)
                    · have t160 := eq_no c153
                      refine ur_ldA rfl rfl ?_
                      refine ur_get rfl hc146 rfl ?_
                      refine ur_ldI rfl rfl ?_
                      refine ur_dup2 rfl rfl rfl ?_
                      obtain ⟨xs162, hc161, hn163, he164⟩ := hO138.int (hO138.fix 46 (by decide) rfl)
                      refine ur_aldV rfl hc161 hn163 (by omega) (fun x165 hx166 => ?_)
                      have t167 := gI_of (j := a1) hc161 hx166
                      have tt168 := cq_r (P := MSz ls l1 h0 r23) (lo := fO h0 r23 8) (m := x70.toInt) (by omega)
                      rw [← px139] at tt168
                      have tt169 : 0 ≤ x165.toInt ∧ x165.toInt ≤ 121 := by omega
                      refine ur_push rfl ?_
                      refine ur_binV rfl (fun x170 e171 => ?_)
                      have z172 := any_r x165
                      have t173 := ti_add e171 (by omega) (by omega)
                      refine ur_astV (W := [46]) (m := 12) rfl hO138 hc161 (by decide) hn163 (by omega) (any_r _) (Or.inr (Or.inr (wid_fix (by decide) (by decide)))) (fun h176 hO176 hv176 d174 hc175 => ?_)
                      have hu176 : un [45, 46, 222, 223, 21212] h138 h176 := hv176.mono (by decide)
                      have w177 : wI h138 h176 46 ((arI h138 46).set (a1 : Int32).toInt.toNat x170) := ⟨by rw [arI_of hc175, arI_of hc161], d174⟩
                      refine ur_incV (fun z => [some (.inr (.inr (some 41))), some (.inl a1), some (.inr (.inr (some r23))), some (.inl z), some (.inl x130), some (.inl x131), u132]) rfl rfl (fun _ => rfl) (fun x178 e179 => ?_)
                      have t180 := ti_add e179 (by omega) (by omega)
                      refine ur_go rfl ?_
                      have hc181 := ((d174 _ (by decide)).trans (hu138.ko (n := 5) (hv124.ko (n := 5) (hu79.ko (n := 5) ((d66 _ (by decide)).trans hc1) rfl (wid_f (by decide)) (by decide)) rfl (wid_f (by decide)) (by decide)) rfl (wid_f (by decide)) (by decide)))
                      have t182 := fO_of (k := 4) hc181 rfl
                      have t183 := fO_of (k := 1) ((d174 _ (by decide)).trans hc147) rfl
                      have z184 := any_r x178
                      exact ih76 x178 _ _ _ _ hO176 (hu79.tr (hu124.tr (hu138.tr hu176))) (by omega) (by rw [((sq_w (am_l (a := 46) hO138 (by decide) rfl (by decide)) w177 (by omega)) a1.toInt (by omega)).1 rfl, cq_y (lo := fO h0 r23 8) (m := x70.toInt) (m' := x178.toInt) (by omega) ((WMs.f px141 (by omega)).mp (by omega)) (by omega), ← px139]; omega) ((px140.k (by omega) (by omega) (by omega)).e (arJ_c (d174 45 (by decide)))) (WKo.w6 px142 (sq_w (am_l (a := 46) hO138 (by decide) rfl (by decide)) w177 (by omega)) (arJ_c (d174 45 (by decide)))) (px143.uk hO138 hO176 hv176 (by decide)) (by omega)
                  · have t185 := le_no c151
                    refine ur_ldA rfl rfl ?_
                    refine ur_get rfl hc146 rfl ?_
                    refine ur_ldI rfl rfl ?_
                    refine ur_inl rfl (rcv_of hc147) (Nat.le_of_ble_eq_true rfl) (Nat.le_of_ble_eq_true rfl) (se_X1_wordAt hO138 _ (pre0.un hO0 hO138 (hu68.tr (hu79.tr (hu124.tr hu138))) (by decide) (by decide)) (fun w186 hr187 => ?_))
                    obtain ⟨o188, rfl, k189, t190, t191⟩ := hr187
                    show uRun _ (uCall Mt _) _ 86 (_, [(.inr (.inr o188))], _, _, _)
                    refine ur_svAk [some (.inr (.inr (some 41))), some (.inl a1), some (.inr (.inr (some r23))), some (.inl x70), some (.inl x130), some (.inl x131), some (.inr (.inr o188))] rfl rfl ?_
                    refine ur_ldA rfl rfl ?_
                    cases o188 with
                    | none =>
                      refine ur_nulN rfl ?_
                      have t193 := t190 rfl
                      refine ur_incV (fun z => [some (.inr (.inr (some 41))), some (.inl a1), some (.inr (.inr (some r23))), some (.inl x70), some (.inl x130), some (.inl z), some (.inr (.inr none))]) rfl rfl (fun _ => rfl) (fun x194 e195 => ?_)
                      have t196 := ti_add e195 (by omega) (by omega)
                      refine ur_go rfl ?_
                      have t197 := fO_of (k := 4) (hu138.ko (n := 5) (hv124.ko (n := 5) (hu79.ko (n := 5) ((d66 _ (by decide)).trans hc1) rfl (wid_f (by decide)) (by decide)) rfl (wid_f (by decide)) (by decide)) rfl (wid_f (by decide)) (by decide)) rfl
                      have z198 := any_r x130
                      have z199 := any_r x194
                      exact ih135 x130 x194 _ _ hO138 hu138 (by omega) (by exfalso; omega) (by exfalso; omega) (by exfalso; omega) (by exfalso; omega) px143 (by omega)
                    | some r192 =>
                      refine ur_nulS rfl ?_
                      have k200 := k189 _ rfl
                      have t201 := t191 _ rfl
                      have w202 := wz_c (arR_u hO0 (hu68.tr (hu79.tr (hu124.tr hu138))) (by decide)) t201.2
                      have tw203 := wz_ok hO0 w202
                      obtain ⟨g220, f205, f206, f207, f208, f209, f210, f211, f212, f213, o217, f214, f215, f216, hc204, k218, k219⟩ := hO138.word k200.2
                      have t221 := fO_of (k := 0) hc204 rfl
                      have tt222 : fO h138 r192 0 = fO h0 r192 0 := fO_wu hO0 (hu68.tr (hu79.tr (hu124.tr hu138))) tw203 (k := 0) (by decide) (by decide)
                      have t223 := fO_of (k := 1) hc204 rfl
                      have tt224 : fO h138 r192 1 = fO h0 r192 1 := fO_wu hO0 (hu68.tr (hu79.tr (hu124.tr hu138))) tw203 (k := 1) (by decide) (by decide)
                      have nb225 := pre9 x131.toInt r192 (by omega) (by omega) w202
                      refine ur_ldI rfl rfl ?_
                      refine ur_if1 rfl (fun c226 => ?_) (fun c226 => ?_)
                      · have t227 := ne_to c226
                        refine ur_ldA rfl rfl ?_
                        refine ur_get rfl hc146 rfl ?_
                        refine ur_ldA rfl rfl ?_
                        refine ur_ldA rfl rfl ?_
                        refine ur_ldI rfl rfl ?_
                        refine ur_push rfl ?_
                        refine ur_push rfl ?_
                        refine ur_push rfl ?_
                        obtain ⟨f229, hc228, k230⟩ := ok_8 hO138
                        refine ur_inl rfl (rcv_of hc228) (Nat.le_of_ble_eq_true rfl) (Nat.le_of_ble_eq_true rfl) (sd_X5_fitDay hO138 g220 k200.2 g106 (hu138.tm (hu124.tm (hu79.tm (hu68.tm k25.2 (by decide)) (by decide)) (by decide)) (by decide)) _ (by show -60 ≤ x70.toInt ∧ x70.toInt ≤ 60; omega) _ (by show -1000000 ≤ (0 : Int32).toInt ∧ (0 : Int32).toInt ≤ 1000000; omega) _ (by show -120 ≤ ((-120) : Int32).toInt ∧ ((-120) : Int32).toInt ≤ 120; omega) _ (by show -120 ≤ (120 : Int32).toInt ∧ (120 : Int32).toInt ≤ 120; omega) ((((pre2.un hO0 hO68 hu68 (by decide)).un hO68 hO79 hu79 (by decide)).un hO79 hO124 hv124 (by decide)).un hO124 hO138 hu138 (by decide)) px143 (cz_un hO0 hO138 (hu68.tr (hu79.tr (hu124.tr hu138))) t26 (by decide) (by decide)) ((txC_un hO0 hO138 (hu68.tr (hu79.tr (hu124.tr hu138))) (by decide) 9 (by decide)).trans pre3) pre4 ((txC_un hO0 hO138 (hu68.tr (hu79.tr (hu124.tr hu138))) (by decide) 11 (by decide)).trans pre5) pre6 t201 (pre7.un hO0 hO138 (hu68.tr (hu79.tr (hu124.tr hu138))) (by decide)) (pre8.un hO0 hO138 (hu68.tr (hu79.tr (hu124.tr hu138))) (by decide)) (by rw [fO_eA (fC_un hO0 (hu68.tr (hu79.tr (hu124.tr hu138))) g106 k25.2 (k := 8) (by decide) (by decide)), fO_eA (fC_un hO0 (hu68.tr (hu79.tr (hu124.tr hu138))) g106 k25.2 (k := 9) (by decide) (by decide))]; omega) (fun w231 h234 hr232 hO234 hv234 hp233 => ?_))
                        have hu234 : un [45, 46, 222, 223, 21212] h138 h234 := hv234.mono (by decide)
                        obtain ⟨x235, rfl, f236⟩ := hr232
                        show uRun _ (uCall Mt _) _ 127 (_, [(.inl x235)], _, _, _)
                        obtain ⟨⟨r237, rr238, F239⟩, bb240⟩ := f236
                        rw [l_0, Int.add_zero, l_m120, l_120] at F239
                        have F241 := FCz.of rr238 F239
                        have F242 := F241.un hO0 (hu68.tr (hu79.tr (hu124.tr hu138))) tw203 ⟨g106, k25.2⟩ (by decide)
                        rw [cf_un hO0 (hu68.tr (hu79.tr (hu124.tr hu138))) g106 k25.2 (by decide)] at F242
                        refine ur_push rfl ?_
                        refine ur_if2 rfl (fun c243 => ?_) (fun c243 => ?_)
                        · have t244 := ne_to c243
                          refine ur_push rfl ?_
                          refine ur_svIk [some (.inr (.inr (some 41))), some (.inl a1), some (.inr (.inr (some r23))), some (.inl x70), some (.inl 0), some (.inl x131), some (.inr (.inr (some r192)))] rfl rfl ?_
                          refine ur_ldA rfl rfl ?_
                          refine ur_get rfl (hv234.ko (n := 13) hc204 rfl (wid_w g220) (by decide)) rfl ?_
                          refine ur_push rfl ?_
                          refine ur_if2 rfl (fun c245 => ?_) (fun c245 => ?_)
                          · have t246 := eq_to c245
                            refine ur_incV (fun z => [some (.inr (.inr (some 41))), some (.inl a1), some (.inr (.inr (some r23))), some (.inl x70), some (.inl 0), some (.inl z), some (.inr (.inr (some r192)))]) rfl rfl (fun _ => rfl) (fun x247 e248 => ?_)
                            have t249 := ti_add e248 (by omega) (by omega)
                            refine ur_go rfl ?_
                            have hc250 := (hv234.ko (n := 5) (hu138.ko (n := 5) (hv124.ko (n := 5) (hu79.ko (n := 5) ((d66 _ (by decide)).trans hc1) rfl (wid_f (by decide)) (by decide)) rfl (wid_f (by decide)) (by decide)) rfl (wid_f (by decide)) (by decide)) rfl (wid_f (by decide)) (by decide))
                            have t251 := fO_of (k := 4) hc250 rfl
                            have t252 := fO_of (k := 1) (hv234.ko (n := 11) hc147 rfl (wid_f (by decide)) (by decide)) rfl
                            have z253 := any_r x247
                            exact ih135 0 x247 _ _ hO234 (hu138.tr hu234) (by omega) ((congrFun (gI_fk (a := 46) (kd := 0) (n := 12) hO138 hv234 (by decide) rfl (by decide) rfl (by decide) (by decide)) a1.toInt).trans px139) (WBp.n (px140.e (arJ_keep (a := 45) (n := 36) hO138 hv234 (by decide) rfl rfl (by decide) (by decide))) (by omega) (fun u => absurd u (RF1.no w202 (fun u => u.1 (by omega)))) (by omega)) (WMs.y (by omega) w202 ⟨x235.toInt, F242, by omega⟩ (by omega) (by omega)) (px142.e (gI_fk (a := 46) (kd := 0) (n := 12) hO138 hv234 (by decide) rfl (by decide) rfl (by decide) (by decide)) (arJ_keep (a := 45) (n := 36) hO138 hv234 (by decide) rfl rfl (by decide) (by decide))) hp233 (by omega)
                          · have t254 := eq_no c245
                            refine ur_ldA rfl rfl ?_
                            refine ur_get rfl (hv234.ko (n := 15) hc146 rfl (wid_f (by decide)) (by decide)) rfl ?_
                            refine ur_ldI rfl rfl ?_
                            refine ur_push rfl ?_
                            refine ur_binV rfl (fun x255 e256 => ?_)
                            have z257 := any_r a1
                            have t258 := ti_mulL e256 l_3 (by omega) (by omega)
                            refine ur_ldI rfl rfl ?_
                            refine ur_push rfl ?_
                            refine ur_binV rfl (fun x259 e260 => ?_)
                            have t261 := shr_6 e260
                            refine ur_binV rfl (fun x262 e263 => ?_)
                            have z264 := any_r x255
                            have z265 := any_r x259
                            have t266 := ti_add e263 (by omega) (by omega)
                            refine ur_dup2 rfl rfl rfl ?_
                            obtain ⟨xs268, hc267, hn269⟩ := hO234.lon (hO234.fix 45 (by decide) rfl)
                            refine ur_aldJV rfl hc267 hn269 (by omega) (fun y271 hx272 => ?_)
                            have g273 := gL_of (j := x262) hc267 hx272
                            refine ur_push rfl ?_
                            refine ur_ldI rfl rfl ?_
                            refine ur_push rfl ?_
                            refine ur_binV rfl (fun x274 e275 => ?_)
                            have tt276 := and_63 e275 (by omega)
                            refine ur_shJV rfl (fun y277 e278 => ?_)
                            refine ur_binJV rfl (fun y279 e280 => ?_)
                            refine ur_astJV (W := [45]) (m := 36) rfl hO234 hc267 hn269 (by omega) (Or.inr (Or.inr (wid_fix (by decide) (by decide)))) (fun h283 hO283 hv283 d281 hc282 => ?_)
                            have hu283 : un [45, 46, 222, 223, 21212] h234 h283 := hv283.mono (by decide)
                            have w284 : wJ h234 h283 45 ((arJ h234 45).set (x262 : Int32).toInt.toNat y279) := ⟨by rw [arJ_of hc282, arJ_of hc267], d281⟩
                            refine ur_incV (fun z => [some (.inr (.inr (some 41))), some (.inl a1), some (.inr (.inr (some r23))), some (.inl x70), some (.inl 0), some (.inl z), some (.inr (.inr (some r192)))]) rfl rfl (fun _ => rfl) (fun x285 e286 => ?_)
                            have t287 := ti_add e286 (by omega) (by omega)
                            refine ur_go rfl ?_
                            have hc288 := ((d281 _ (by decide)).trans (hv234.ko (n := 5) (hu138.ko (n := 5) (hv124.ko (n := 5) (hu79.ko (n := 5) ((d66 _ (by decide)).trans hc1) rfl (wid_f (by decide)) (by decide)) rfl (wid_f (by decide)) (by decide)) rfl (wid_f (by decide)) (by decide)) rfl (wid_f (by decide)) (by decide)))
                            have t289 := fO_of (k := 4) hc288 rfl
                            have t290 := fO_of (k := 1) ((d281 _ (by decide)).trans (hv234.ko (n := 11) hc147 rfl (wid_f (by decide)) (by decide))) rfl
                            have z291 := any_r x285
                            exact ih135 0 x285 _ _ hO283 (hu138.tr (hu234.tr hu283)) (by omega) ((congrFun ((gI_f (d281 46 (by decide))).trans (gI_fk (a := 46) (kd := 0) (n := 12) hO138 hv234 (by decide) rfl (by decide) rfl (by decide) (by decide))) a1.toInt).trans px139) (WBp.y (px140.e (arJ_keep (a := 45) (n := 36) hO138 hv234 (by decide) rfl rfl (by decide) (by decide))) (by omega) ⟨r192, w202, by omega, ⟨x235.toInt, F242, by omega⟩⟩ (BTz.set (i := a1.toInt) (j := x131.toInt) (old := y271) (b := y277) hO234 w284 (by omega) (by omega) (by omega) g273 e280 (by rw [show x131.toInt % 64 = x274.toInt by omega]; exact bit_e e278 (by omega))) (by omega)) (WMs.y (by omega) w202 ⟨x235.toInt, F242, by omega⟩ (by omega) (by omega)) (WKo.w5 (j := x131.toInt) (px142.e (gI_fk (a := 46) (kd := 0) (n := 12) hO138 hv234 (by decide) rfl (by decide) rfl (by decide) (by decide)) (arJ_keep (a := 45) (n := 36) hO138 hv234 (by decide) rfl rfl (by decide) (by decide))) (gI_f (d281 46 (by decide))) (BTz.set (i := a1.toInt) (j := x131.toInt) (old := y271) (b := y277) hO234 w284 (by omega) (by omega) (by omega) g273 e280 (by rw [show x131.toInt % 64 = x274.toInt by omega]; exact bit_e e278 (by omega)))) (hp233.uk hO234 hO283 hv283 (by decide)) (by omega)
                        · have t292 := ne_no c243
                          refine ur_go rfl ?_
                          refine ur_incV (fun z => [some (.inr (.inr (some 41))), some (.inl a1), some (.inr (.inr (some r23))), some (.inl x70), some (.inl x130), some (.inl z), some (.inr (.inr (some r192)))]) rfl rfl (fun _ => rfl) (fun x293 e294 => ?_)
                          have t295 := ti_add e294 (by omega) (by omega)
                          refine ur_go rfl ?_
                          have hc296 := (hv234.ko (n := 5) (hu138.ko (n := 5) (hv124.ko (n := 5) (hu79.ko (n := 5) ((d66 _ (by decide)).trans hc1) rfl (wid_f (by decide)) (by decide)) rfl (wid_f (by decide)) (by decide)) rfl (wid_f (by decide)) (by decide)) rfl (wid_f (by decide)) (by decide))
                          have t297 := fO_of (k := 4) hc296 rfl
                          have t298 := fO_of (k := 1) (hv234.ko (n := 11) hc147 rfl (wid_f (by decide)) (by decide)) rfl
                          have z299 := any_r x130
                          have z300 := any_r x293
                          exact ih135 x130 x293 _ _ hO234 (hu138.tr hu234) (by omega) ((congrFun (gI_fk (a := 46) (kd := 0) (n := 12) hO138 hv234 (by decide) rfl (by decide) rfl (by decide) (by decide)) a1.toInt).trans px139) (WBp.n (px140.e (arJ_keep (a := 45) (n := 36) hO138 hv234 (by decide) rfl rfl (by decide) (by decide))) (by omega) (fun u => absurd u (RF1.no w202 (fun u => absurd u.2 (fun ⟨_, f, n⟩ => n ((f.u F242).trans (by omega)))))) (by omega)) (WMs.n px141 w202 (fun ⟨_, f, n⟩ => n ((f.u F242).trans (by omega))) (by omega)) (px142.e (gI_fk (a := 46) (kd := 0) (n := 12) hO138 hv234 (by decide) rfl (by decide) rfl (by decide) (by decide)) (arJ_keep (a := 45) (n := 36) hO138 hv234 (by decide) rfl rfl (by decide) (by decide))) hp233 (by omega)
                      · have t301 := ne_no c226
                        refine ur_ldA rfl rfl ?_
                        refine ur_ldA rfl rfl ?_
                        refine ur_ldI rfl rfl ?_
                        refine ur_inl rfl (rcv_of hc146) (Nat.le_of_ble_eq_true rfl) (Nat.le_of_ble_eq_true rfl) (sd_X7_isNewRoot hO138 g220 k200.2 _ (by show 0 ≤ a1.toInt ∧ a1.toInt ≤ 11; omega) (by omega) (fun w302 hr303 => ?_))
                        obtain ⟨b304, rfl, t305, t306⟩ := hr303
                        show uRun _ (uCall Mt _) _ 105 (_, [(.inl (bi b304))], _, _, _)
                        refine ur_neB rfl (fun c307 => ?_) (fun c307 => ?_)
                        · have t308 := t305 c307
                          clear t305 t306
                          refine ur_ldA rfl rfl ?_
                          refine ur_get rfl hc146 rfl ?_
                          refine ur_ldA rfl rfl ?_
                          refine ur_ldA rfl rfl ?_
                          refine ur_ldI rfl rfl ?_
                          refine ur_push rfl ?_
                          refine ur_push rfl ?_
                          refine ur_push rfl ?_
                          obtain ⟨f310, hc309, k311⟩ := ok_8 hO138
                          refine ur_inl rfl (rcv_of hc309) (Nat.le_of_ble_eq_true rfl) (Nat.le_of_ble_eq_true rfl) (sd_X5_fitDay hO138 g220 k200.2 g106 (hu138.tm (hu124.tm (hu79.tm (hu68.tm k25.2 (by decide)) (by decide)) (by decide)) (by decide)) _ (by show -60 ≤ x70.toInt ∧ x70.toInt ≤ 60; omega) _ (by show -1000000 ≤ (0 : Int32).toInt ∧ (0 : Int32).toInt ≤ 1000000; omega) _ (by show -120 ≤ ((-120) : Int32).toInt ∧ ((-120) : Int32).toInt ≤ 120; omega) _ (by show -120 ≤ (120 : Int32).toInt ∧ (120 : Int32).toInt ≤ 120; omega) ((((pre2.un hO0 hO68 hu68 (by decide)).un hO68 hO79 hu79 (by decide)).un hO79 hO124 hv124 (by decide)).un hO124 hO138 hu138 (by decide)) px143 (cz_un hO0 hO138 (hu68.tr (hu79.tr (hu124.tr hu138))) t26 (by decide) (by decide)) ((txC_un hO0 hO138 (hu68.tr (hu79.tr (hu124.tr hu138))) (by decide) 9 (by decide)).trans pre3) pre4 ((txC_un hO0 hO138 (hu68.tr (hu79.tr (hu124.tr hu138))) (by decide) 11 (by decide)).trans pre5) pre6 t201 (pre7.un hO0 hO138 (hu68.tr (hu79.tr (hu124.tr hu138))) (by decide)) (pre8.un hO0 hO138 (hu68.tr (hu79.tr (hu124.tr hu138))) (by decide)) (by rw [fO_eA (fC_un hO0 (hu68.tr (hu79.tr (hu124.tr hu138))) g106 k25.2 (k := 8) (by decide) (by decide)), fO_eA (fC_un hO0 (hu68.tr (hu79.tr (hu124.tr hu138))) g106 k25.2 (k := 9) (by decide) (by decide))]; omega) (fun w312 h315 hr313 hO315 hv315 hp314 => ?_))
                          have hu315 : un [45, 46, 222, 223, 21212] h138 h315 := hv315.mono (by decide)
                          obtain ⟨x316, rfl, f317⟩ := hr313
                          show uRun _ (uCall Mt _) _ 127 (_, [(.inl x316)], _, _, _)
                          obtain ⟨⟨r318, rr319, F320⟩, bb321⟩ := f317
                          rw [l_0, Int.add_zero, l_m120, l_120] at F320
                          have F322 := FCz.of rr319 F320
                          have F323 := F322.un hO0 (hu68.tr (hu79.tr (hu124.tr hu138))) tw203 ⟨g106, k25.2⟩ (by decide)
                          rw [cf_un hO0 (hu68.tr (hu79.tr (hu124.tr hu138))) g106 k25.2 (by decide)] at F323
                          refine ur_push rfl ?_
                          refine ur_if2 rfl (fun c324 => ?_) (fun c324 => ?_)
                          · have t325 := ne_to c324
                            refine ur_push rfl ?_
                            refine ur_svIk [some (.inr (.inr (some 41))), some (.inl a1), some (.inr (.inr (some r23))), some (.inl x70), some (.inl 0), some (.inl x131), some (.inr (.inr (some r192)))] rfl rfl ?_
                            refine ur_ldA rfl rfl ?_
                            refine ur_get rfl (hv315.ko (n := 13) hc204 rfl (wid_w g220) (by decide)) rfl ?_
                            refine ur_push rfl ?_
                            refine ur_if2 rfl (fun c326 => ?_) (fun c326 => ?_)
                            · have t327 := eq_to c326
                              refine ur_incV (fun z => [some (.inr (.inr (some 41))), some (.inl a1), some (.inr (.inr (some r23))), some (.inl x70), some (.inl 0), some (.inl z), some (.inr (.inr (some r192)))]) rfl rfl (fun _ => rfl) (fun x328 e329 => ?_)
                              have t330 := ti_add e329 (by omega) (by omega)
                              refine ur_go rfl ?_
                              have hc331 := (hv315.ko (n := 5) (hu138.ko (n := 5) (hv124.ko (n := 5) (hu79.ko (n := 5) ((d66 _ (by decide)).trans hc1) rfl (wid_f (by decide)) (by decide)) rfl (wid_f (by decide)) (by decide)) rfl (wid_f (by decide)) (by decide)) rfl (wid_f (by decide)) (by decide))
                              have t332 := fO_of (k := 4) hc331 rfl
                              have t333 := fO_of (k := 1) (hv315.ko (n := 11) hc147 rfl (wid_f (by decide)) (by decide)) rfl
                              have z334 := any_r x328
                              exact ih135 0 x328 _ _ hO315 (hu138.tr hu315) (by omega) ((congrFun (gI_fk (a := 46) (kd := 0) (n := 12) hO138 hv315 (by decide) rfl (by decide) rfl (by decide) (by decide)) a1.toInt).trans px139) (WBp.n (px140.e (arJ_keep (a := 45) (n := 36) hO138 hv315 (by decide) rfl rfl (by decide) (by decide))) (by omega) (fun u => absurd u (RF1.no w202 (fun u => u.1 (by omega)))) (by omega)) (WMs.y (by omega) w202 ⟨x316.toInt, F323, by omega⟩ (by omega) (by omega)) (px142.e (gI_fk (a := 46) (kd := 0) (n := 12) hO138 hv315 (by decide) rfl (by decide) rfl (by decide) (by decide)) (arJ_keep (a := 45) (n := 36) hO138 hv315 (by decide) rfl rfl (by decide) (by decide))) hp314 (by omega)
                            · have t335 := eq_no c326
                              refine ur_ldA rfl rfl ?_
                              refine ur_get rfl (hv315.ko (n := 15) hc146 rfl (wid_f (by decide)) (by decide)) rfl ?_
                              refine ur_ldI rfl rfl ?_
                              refine ur_push rfl ?_
                              refine ur_binV rfl (fun x336 e337 => ?_)
                              have z338 := any_r a1
                              have t339 := ti_mulL e337 l_3 (by omega) (by omega)
                              refine ur_ldI rfl rfl ?_
                              refine ur_push rfl ?_
                              refine ur_binV rfl (fun x340 e341 => ?_)
                              have t342 := shr_6 e341
                              refine ur_binV rfl (fun x343 e344 => ?_)
                              have z345 := any_r x336
                              have z346 := any_r x340
                              have t347 := ti_add e344 (by omega) (by omega)
                              refine ur_dup2 rfl rfl rfl ?_
                              obtain ⟨xs349, hc348, hn350⟩ := hO315.lon (hO315.fix 45 (by decide) rfl)
                              refine ur_aldJV rfl hc348 hn350 (by omega) (fun y352 hx353 => ?_)
                              have g354 := gL_of (j := x343) hc348 hx353
                              refine ur_push rfl ?_
                              refine ur_ldI rfl rfl ?_
                              refine ur_push rfl ?_
                              refine ur_binV rfl (fun x355 e356 => ?_)
                              have tt357 := and_63 e356 (by omega)
                              refine ur_shJV rfl (fun y358 e359 => ?_)
                              refine ur_binJV rfl (fun y360 e361 => ?_)
                              refine ur_astJV (W := [45]) (m := 36) rfl hO315 hc348 hn350 (by omega) (Or.inr (Or.inr (wid_fix (by decide) (by decide)))) (fun h364 hO364 hv364 d362 hc363 => ?_)
                              have hu364 : un [45, 46, 222, 223, 21212] h315 h364 := hv364.mono (by decide)
                              have w365 : wJ h315 h364 45 ((arJ h315 45).set (x343 : Int32).toInt.toNat y360) := ⟨by rw [arJ_of hc363, arJ_of hc348], d362⟩
                              refine ur_incV (fun z => [some (.inr (.inr (some 41))), some (.inl a1), some (.inr (.inr (some r23))), some (.inl x70), some (.inl 0), some (.inl z), some (.inr (.inr (some r192)))]) rfl rfl (fun _ => rfl) (fun x366 e367 => ?_)
                              have t368 := ti_add e367 (by omega) (by omega)
                              refine ur_go rfl ?_
                              have hc369 := ((d362 _ (by decide)).trans (hv315.ko (n := 5) (hu138.ko (n := 5) (hv124.ko (n := 5) (hu79.ko (n := 5) ((d66 _ (by decide)).trans hc1) rfl (wid_f (by decide)) (by decide)) rfl (wid_f (by decide)) (by decide)) rfl (wid_f (by decide)) (by decide)) rfl (wid_f (by decide)) (by decide)))
                              have t370 := fO_of (k := 4) hc369 rfl
                              have t371 := fO_of (k := 1) ((d362 _ (by decide)).trans (hv315.ko (n := 11) hc147 rfl (wid_f (by decide)) (by decide))) rfl
                              have z372 := any_r x366
                              exact ih135 0 x366 _ _ hO364 (hu138.tr (hu315.tr hu364)) (by omega) ((congrFun ((gI_f (d362 46 (by decide))).trans (gI_fk (a := 46) (kd := 0) (n := 12) hO138 hv315 (by decide) rfl (by decide) rfl (by decide) (by decide))) a1.toInt).trans px139) (WBp.y (px140.e (arJ_keep (a := 45) (n := 36) hO138 hv315 (by decide) rfl rfl (by decide) (by decide))) (by omega) ⟨r192, w202, by omega, ⟨x316.toInt, F323, by omega⟩⟩ (BTz.set (i := a1.toInt) (j := x131.toInt) (old := y352) (b := y358) hO315 w365 (by omega) (by omega) (by omega) g354 e361 (by rw [show x131.toInt % 64 = x355.toInt by omega]; exact bit_e e359 (by omega))) (by omega)) (WMs.y (by omega) w202 ⟨x316.toInt, F323, by omega⟩ (by omega) (by omega)) (WKo.w5 (j := x131.toInt) (px142.e (gI_fk (a := 46) (kd := 0) (n := 12) hO138 hv315 (by decide) rfl (by decide) rfl (by decide) (by decide)) (arJ_keep (a := 45) (n := 36) hO138 hv315 (by decide) rfl rfl (by decide) (by decide))) (gI_f (d362 46 (by decide))) (BTz.set (i := a1.toInt) (j := x131.toInt) (old := y352) (b := y358) hO315 w365 (by omega) (by omega) (by omega) g354 e361 (by rw [show x131.toInt % 64 = x355.toInt by omega]; exact bit_e e359 (by omega)))) (hp314.uk hO315 hO364 hv364 (by decide)) (by omega)
                          · have t373 := ne_no c324
                            refine ur_go rfl ?_
                            refine ur_incV (fun z => [some (.inr (.inr (some 41))), some (.inl a1), some (.inr (.inr (some r23))), some (.inl x70), some (.inl x130), some (.inl z), some (.inr (.inr (some r192)))]) rfl rfl (fun _ => rfl) (fun x374 e375 => ?_)
                            have t376 := ti_add e375 (by omega) (by omega)
                            refine ur_go rfl ?_
                            have hc377 := (hv315.ko (n := 5) (hu138.ko (n := 5) (hv124.ko (n := 5) (hu79.ko (n := 5) ((d66 _ (by decide)).trans hc1) rfl (wid_f (by decide)) (by decide)) rfl (wid_f (by decide)) (by decide)) rfl (wid_f (by decide)) (by decide)) rfl (wid_f (by decide)) (by decide))
                            have t378 := fO_of (k := 4) hc377 rfl
                            have t379 := fO_of (k := 1) (hv315.ko (n := 11) hc147 rfl (wid_f (by decide)) (by decide)) rfl
                            have z380 := any_r x130
                            have z381 := any_r x374
                            exact ih135 x130 x374 _ _ hO315 (hu138.tr hu315) (by omega) ((congrFun (gI_fk (a := 46) (kd := 0) (n := 12) hO138 hv315 (by decide) rfl (by decide) rfl (by decide) (by decide)) a1.toInt).trans px139) (WBp.n (px140.e (arJ_keep (a := 45) (n := 36) hO138 hv315 (by decide) rfl rfl (by decide) (by decide))) (by omega) (fun u => absurd u (RF1.no w202 (fun u => absurd u.2 (fun ⟨_, f, n⟩ => n ((f.u F323).trans (by omega)))))) (by omega)) (WMs.n px141 w202 (fun ⟨_, f, n⟩ => n ((f.u F323).trans (by omega))) (by omega)) (px142.e (gI_fk (a := 46) (kd := 0) (n := 12) hO138 hv315 (by decide) rfl (by decide) rfl (by decide) (by decide)) (arJ_keep (a := 45) (n := 36) hO138 hv315 (by decide) rfl rfl (by decide) (by decide))) hp314 (by omega)
                        · have t382 := t306 c307
                          clear t305 t306
                          refine ur_go rfl ?_
                          refine ur_incV (fun z => [some (.inr (.inr (some 41))), some (.inl a1), some (.inr (.inr (some r23))), some (.inl x70), some (.inl x130), some (.inl z), some (.inr (.inr (some r192)))]) rfl rfl (fun _ => rfl) (fun x383 e384 => ?_)
                          have t385 := ti_add e384 (by omega) (by omega)
                          refine ur_go rfl ?_
                          have t386 := fO_of (k := 4) (hu138.ko (n := 5) (hv124.ko (n := 5) (hu79.ko (n := 5) ((d66 _ (by decide)).trans hc1) rfl (wid_f (by decide)) (by decide)) rfl (wid_f (by decide)) (by decide)) rfl (wid_f (by decide)) (by decide)) rfl
                          have z387 := any_r x130
                          have z388 := any_r x383
                          exact ih135 x130 x383 _ _ hO138 hu138 (by omega) px139 (WBp.n px140 (by omega) (NR_no t382 (by omega) tt224 w202) (by omega)) (WMs.k px141 (by omega) (by omega)) (px142.e rfl rfl) px143 (by omega)
              exact L133 _ (bi b125) 0 (u73) _ hO124 un.rf (by omega) ((congrFun (gI_fk (a := 46) (kd := 0) (n := 12) hO79 hv124 (by decide) rfl (by decide) rfl (by decide) (by decide)) a1.toInt).trans px80) ((px81.e (arJ_keep (a := 45) (n := 36) hO79 hv124 (by decide) rfl rfl (by decide) (by decide))).p (by omega)) (WMs.z mi128.1 (by omega)) (px82.e (gI_fk (a := 46) (kd := 0) (n := 12) hO79 hv124 (by decide) rfl (by decide) rfl (by decide) (by decide)) (arJ_keep (a := 45) (n := 36) hO79 hv124 (by decide) rfl rfl (by decide) (by decide))) hp123 (Nat.lt_succ_self _)
        have z389 := any_r f50
        have t390 := fO_of (k := 8) ((d66 _ (ne_tg (hu68.tm k25.2 (by decide)) (hO68.fix 46 (by decide) rfl) (by decide))).trans hc41) rfl
        have tt391 : fO h68 r23 8 = fO h0 r23 8 := fO_eA (fC_un hO0 hu68 g61 k25.2 (k := 8) (by decide) (by decide))
        have t392 := fO_of (k := 9) ((d66 _ (ne_tg (hu68.tm k25.2 (by decide)) (hO68.fix 46 (by decide) rfl) (by decide))).trans hc41) rfl
        have tt393 : fO h68 r23 9 = fO h0 r23 9 := fO_eA (fC_un hO0 hu68 g61 k25.2 (k := 9) (by decide) (by decide))
        have tt394 : fO h68 r23 8 = fO h0 r23 8 := fO_eA (fC_un hO0 hu68 g61 k25.2 (k := 8) (by decide) (by decide))
        have tt395 : fO h68 r23 9 = fO h0 r23 9 := fO_eA (fC_un hO0 hu68 g61 k25.2 (k := 9) (by decide) (by decide))
        have tt396 : fO h68 r23 8 = fO h0 r23 8 := fO_eA (fC_un hO0 hu68 g61 k25.2 (k := 8) (by decide) (by decide))
        have tt397 : fO h68 r23 9 = fO h0 r23 9 := fO_eA (fC_un hO0 hu68 g61 k25.2 (k := 9) (by decide) (by decide))
        exact L74 _ f50 (none) (none) (none) _ hO68 un.rf (by omega) (by rw [((sq_w (am_l (a := 46) hO0 (by decide) rfl (by decide)) w69 (by omega)) a1.toInt (by omega)).1 rfl, l_0, cq_z (by omega)]) (WBk.z wz65 (arJ_c (d66 45 (by decide))) (by omega)) (WKo.w6 WKo.rf (sq_w (am_l (a := 46) hO0 (by decide) rfl (by decide)) w69 (by omega)) (arJ_c (d66 45 (by decide)))) (pre1.uk hO0 hO68 hv68 (by decide)) (Nat.lt_succ_self _)
      · have t398 := eq_no c39
        exact ur_ret0 rfl (hQ _ _ rfl hO0 un.rf pre1 pre10 (fun _ _ _ q => q) (fun q => by omega))

set_option maxRecDepth 20000 in
set_option maxHeartbeats 4000000 in
theorem sz_X11_judge {d kc ks : Nat} {h0 : aH} {Q : Option aV → aH → Prop} {ls : List (List (Int × Int) × List (Int × Int))} {l1 : List (List (Int × Int) × List (Int × Int))} (hO0 : OK h0) (a1 : Int32) (pre0 : NA h0) (pre1 : SGc ls h0) (pre2 : SKc h0) (pre3 : txC h0 9 = cfl 0 ls) (pre4 : ∀ l ∈ ls, lnG l) (pre5 : txC h0 11 = cfl 0 l1) (pre6 : ∀ l ∈ l1, lnG l) (pre7 : RTW h0) (pre8 : LDw h0) (pre9 : NBw h0) (pre10 : WTr ls l1 h0 h0) (hQ : ∀ r h', (∃ x : Int32, r = some (.inl x) ∧ (((0 ≤ a1.toInt ∧ a1.toInt < p2 (fO h0 1 4)) → x.toInt = WVx (RCw ls l1 h0) (MCw ls l1 h0) (fO h0 15 1) a1) ∧ (¬ (0 ≤ a1.toInt ∧ a1.toInt < p2 (fO h0 1 4)) → x.toInt = -2000000000))) → OK h' → un [45, 46, 222, 223, 21212] h0 h' → (SGc ls h') → (WTr ls l1 h' h') → Q r h') : uCall Mt (d + 8) 145 [(.inr (.inr (some 0))), (.inl a1)] h0 kc ks Q := by
  have l_m2000000000 : ((-2000000000) : Int32).toInt = -2000000000 := by decide
  have l_0 : ((0) : Int32).toInt = 0 := by decide
  have l_1 : ((1) : Int32).toInt = 1 := by decide
  refine uc_ink [some (.inr (.inr (some 0))), some (.inl a1), none] mt_145 (Nat.le_of_ble_eq_true rfl) rfl ?_
  obtain ⟨f2, f3, hc1, k4⟩ := ok_1 hO0
  have t5 := fO_of (k := 4) hc1 rfl
  obtain ⟨f7, f8, f9, f10, hc6, k11⟩ := ok_15 hO0
  have t12 := fO_of (k := 1) hc6 rfl
  have tt13 := p2_r (k := fO h0 1 4) (by omega)
  refine ur_ldI rfl rfl ?_
  refine ur_push rfl ?_
  refine ur_push rfl ?_
  refine ur_ldA rfl rfl ?_
  obtain ⟨hc14, k15⟩ := ok_0 hO0
  refine ur_get rfl hc14 rfl ?_
  refine ur_get rfl hc1 rfl ?_
  refine ur_binV rfl (fun x16 e17 => ?_)
  have tt18 := shl_p e17 (by omega)
  rw [show f3.toInt = fO h0 1 4 by omega] at tt18
  refine ur_push rfl ?_
  refine ur_binV rfl (fun x19 e20 => ?_)
  have z21 := any_r x16
  have t22 := ti_sub e20 (by omega) (by omega)
  refine ur_callv rfl rfl (Nat.le_of_ble_eq_true rfl) (Nat.le_of_ble_eq_true rfl) rfl (sp_within _ _ _ _ _) ?_
  refine ur_neB rfl (fun c25 => ?_) (fun c25 => ?_)
  · have t26 := wi_to c25
    refine ur_push rfl ?_
    refine ur_svIk [some (.inr (.inr (some 0))), some (.inl a1), some (.inl 0)] rfl rfl ?_
    have L28 : ∀ (m29 : Nat) (x27 : Int32) (h31 : aH) , OK h31 → un [45, 46, 222, 223, 21212] h0 h31 → ((0 ≤ x27.toInt ∧ x27.toInt ≤ 12) ∧ x27.toInt ≤ fO h0 1 4) → (WTr ls l1 h0 h31) → (∀ c : Int, 0 ≤ c → c < x27.toInt → bt a1 c = 1 → gI h31 46 c ≠ -1) → (SGc ls h31) → ((13 - x27.toInt).toNat) < m29 → uRun oX11_judge (uCall Mt (d + 7)) Q 24 ([some (.inr (.inr (some 0))), some (.inl a1), some (.inl x27)], [], h31, kc, ks) := by
      intro m29
      induction m29 with
      | zero => intro x27 h31 hO31 hu31 iv35 px32 px33 px34 mm36; omega
      | succ m29 ih30 =>
        intro x27 h31 hO31 hu31 iv35 px32 px33 px34 mm36
        have t37 := fO_of (k := 4) (hu31.ko (n := 5) hc1 rfl (wid_f (by decide)) (by decide)) rfl
        have t38 := fO_of (k := 1) (hu31.ko (n := 11) hc6 rfl (wid_f (by decide)) (by decide)) rfl
        refine ur_ldI rfl rfl ?_
        refine ur_ldA rfl rfl ?_
        refine ur_get rfl (hu31.ko (n := 8) hc14 rfl (wid_f (by decide)) (by decide)) rfl ?_
        refine ur_get rfl (hu31.ko (n := 5) hc1 rfl (wid_f (by decide)) (by decide)) rfl ?_
        have z39 := any_r x27
        have z40 := any_r f3
        refine ur_if2 rfl (fun c41 => ?_) (fun c41 => ?_)
        · have t42 := le_to c41
          refine ur_ldA rfl rfl ?_
          refine ur_get rfl (hu31.ko (n := 8) hc14 rfl (wid_f (by decide)) (by decide)) rfl ?_
          refine ur_ldI rfl rfl ?_
          obtain ⟨f44, f45, hc43, k46⟩ := ok_41 hO31
          refine ur_inl rfl (rcv_of hc43) (Nat.le_of_ble_eq_true rfl) (Nat.le_of_ble_eq_true rfl) (sd_X7_worthOf hO31 _ (by omega) (fun c c0 c1 b => px32.r hO0 ⟨c0, c1⟩ (px33 c c0 (by have l := (bt_lt (k := fO h0 1 4) ⟨by omega, by omega⟩ ⟨c0, by omega⟩ b); omega) b)) (fun w47 hr48 => ?_))
          obtain ⟨x49, rfl, f50⟩ := hr48
          show uRun _ (uCall Mt _) _ 66 (_, [(.inl x49)], _, _, _)
          exact ur_ret rfl rfl (hQ _ _ ⟨_, rfl, ⟨fun _ => (by have q := f50.1; rw [px32.v (by omega) (fun c c0 c1 b => px33 c c0 (by have l := (bt_lt (k := fO h0 1 4) ⟨by omega, by omega⟩ ⟨c0, by omega⟩ b); omega) b)] at q; exact q), fun q => absurd ⟨by omega, by omega⟩ q⟩⟩ hO31 hu31 px34 (px32.b hO0 hO31 hu31 (by decide)))
        · have t51 := le_no c41
          refine ur_ldI rfl rfl ?_
          refine ur_ldI rfl rfl ?_
          refine ur_binV rfl (fun x52 e53 => ?_)
          have z54 := any_r a1
          refine ur_push rfl ?_
          refine ur_binV rfl (fun x55 e56 => ?_)
          have t57 := and_1 e56
          refine ur_push rfl ?_
          have t58 := bt_of e53 e56
          refine ur_if2 rfl (fun c59 => ?_) (fun c59 => ?_)
          · have t60 := ne_to c59
            refine ur_incV (fun z => [some (.inr (.inr (some 0))), some (.inl a1), some (.inl z)]) rfl rfl (fun _ => rfl) (fun x61 e62 => ?_)
            have t63 := ti_add e62 (by omega) (by omega)
            refine ur_go rfl ?_
            have z64 := any_r x61
            exact ih30 x61 _ hO31 hu31 (by omega) px32 (fun c c0 c1 b => px33 c c0 (by by_cases e : c = x27.toInt; rw [e] at b; omega; omega) b) px34 (by omega)
          · have t65 := ne_no c59
            refine ur_ldA rfl rfl ?_
            refine ur_get rfl (hu31.ko (n := 8) hc14 rfl (wid_f (by decide)) (by decide)) rfl ?_
            refine ur_ldI rfl rfl ?_
            obtain ⟨f67, f68, hc66, k69⟩ := ok_41 hO31
            refine ur_inl rfl (rcv_of hc66) (Nat.le_of_ble_eq_true rfl) (Nat.le_of_ble_eq_true rfl) (sz_X7_weighComet hO31 _ (pre0.un hO0 hO31 hu31 (by decide) (by decide)) px34 (pre2.un hO0 hO31 hu31 (by decide)) ((txC_un hO0 hO31 hu31 (by decide) 9 (by decide)).trans pre3) pre4 ((txC_un hO0 hO31 hu31 (by decide) 11 (by decide)).trans pre5) pre6 (pre7.un hO0 hO31 hu31 (by decide)) (pre8.un hO0 hO31 hu31 (by decide)) (pre9.un hO0 hO31 hu31 (by decide)) (px32.b hO0 hO31 hu31 (by decide)) (fun w70 h76 hr71 hO76 hv76 hp72 hp73 hp74 hp75 => ?_))
            have hu76 := hv76
            subst hr71
            show uRun _ (uCall Mt _) _ 52 (_, [], _, _, _)
            refine ur_incV (fun z => [some (.inr (.inr (some 0))), some (.inl a1), some (.inl z)]) rfl rfl (fun _ => rfl) (fun x77 e78 => ?_)
            have t79 := ti_add e78 (by omega) (by omega)
            refine ur_go rfl ?_
            have t80 := fO_of (k := 4) (hv76.ko (n := 5) (hu31.ko (n := 5) hc1 rfl (wid_f (by decide)) (by decide)) rfl (wid_f (by decide)) (by decide)) rfl
            have t81 := fO_of (k := 1) (hv76.ko (n := 11) (hu31.ko (n := 11) hc6 rfl (wid_f (by decide)) (by decide)) rfl (wid_f (by decide)) (by decide)) rfl
            have z82 := any_r x77
            exact ih30 x77 _ hO76 (hu31.tr hu76) (by omega) (hp73.c hO0 hO31 hu31 (by decide)) (fun c c0 c1 b => by
              by_cases e : c = x27.toInt
              · rw [e]; exact hp75 (by omega)
              · exact hp74 c c0 (by omega) (px33 c c0 (by omega) b)) hp72 (by omega)
    exact L28 _ 0 _ hO0 un.rf (by omega) pre10 (fun c c0 c1 => by omega) pre1 (Nat.lt_succ_self _)
  · have t83 := wi_no c25
    refine ur_push rfl ?_
    exact ur_ret rfl rfl (hQ _ _ ⟨_, rfl, ⟨fun q => by exfalso; omega, fun _ => by omega⟩⟩ hO0 un.rf pre1 pre10)

set_option maxRecDepth 20000 in
set_option maxHeartbeats 4000000 in
theorem sz_X11_best {d kc ks : Nat} {h0 : aH} {Q : Option aV → aH → Prop} {ls : List (List (Int × Int) × List (Int × Int))} {l1 : List (List (Int × Int) × List (Int × Int))} (hO0 : OK h0) (a1 : Int32) (pre0 : NA h0) (pre1 : SGc ls h0) (pre2 : SKc h0) (pre3 : txC h0 9 = cfl 0 ls) (pre4 : ∀ l ∈ ls, lnG l) (pre5 : txC h0 11 = cfl 0 l1) (pre6 : ∀ l ∈ l1, lnG l) (pre7 : RTW h0) (pre8 : LDw h0) (pre9 : NBw h0) (pre10 : WTr ls l1 h0 h0) (hQ : ∀ r h', (∃ x : Int32, r = some (.inl x) ∧ (((0 ≤ a1.toInt ∧ a1.toInt ≤ 1) → ∃ n b w, (n ≤ fO h0 1 4 ∧ n ≤ 6 ∧ (n = fO h0 1 4 ∨ n = 6)) ∧ bsF (VZx ls l1 h0) (p2 n - 1).toNat = (b, w) ∧ (a1.toInt = 0 → x.toInt = b) ∧ (a1.toInt = 1 → x.toInt = w)) ∧ (¬ (0 ≤ a1.toInt ∧ a1.toInt ≤ 1) → x.toInt = -2000000000))) → OK h' → un [45, 46, 222, 223, 21212] h0 h' → (SGc ls h') → (WTr ls l1 h' h') → Q r h') : uCall Mt (d + 8) 146 [(.inr (.inr (some 0))), (.inl a1)] h0 kc ks Q := by
  have l_m2000000000 : ((-2000000000) : Int32).toInt = -2000000000 := by decide
  have l_0 : ((0) : Int32).toInt = 0 := by decide
  have l_1 : ((1) : Int32).toInt = 1 := by decide
  have l_6 : ((6) : Int32).toInt = 6 := by decide
  refine uc_ink [some (.inr (.inr (some 0))), some (.inl a1), none, none] mt_146 (Nat.le_of_ble_eq_true rfl) rfl ?_
  obtain ⟨f2, f3, hc1, k4⟩ := ok_1 hO0
  have t5 := fO_of (k := 4) hc1 rfl
  obtain ⟨f7, f8, f9, f10, hc6, k11⟩ := ok_15 hO0
  have t12 := fO_of (k := 1) hc6 rfl
  have tt13 := p2_r (k := fO h0 1 4) (by omega)
  refine ur_ldI rfl rfl ?_
  refine ur_push rfl ?_
  refine ur_push rfl ?_
  refine ur_callv rfl rfl (Nat.le_of_ble_eq_true rfl) (Nat.le_of_ble_eq_true rfl) rfl (sp_within _ _ _ _ _) ?_
  refine ur_neB rfl (fun c16 => ?_) (fun c16 => ?_)
  · have t17 := wi_toL c16 l_0 l_1
    refine ur_ldA rfl rfl ?_
    obtain ⟨hc18, k19⟩ := ok_0 hO0
    refine ur_get rfl hc18 rfl ?_
    refine ur_get rfl hc1 rfl ?_
    refine ur_push rfl ?_
    refine ur_minV rfl (by show ¬ 9 ≤ 2; decide) (fun x20 t21 e22 => ?_)
    refine ur_svIk [some (.inr (.inr (some 0))), some (.inl a1), some (.inl x20), none] rfl rfl ?_
    refine ur_push rfl ?_
    refine ur_svIk [some (.inr (.inr (some 0))), some (.inl a1), some (.inl x20), some (.inl 0)] rfl rfl ?_
    have L24 : ∀ (m25 : Nat) (x23 : Int32) (h27 : aH) , OK h27 → un [45, 46, 222, 223, 21212] h0 h27 → ((0 ≤ x23.toInt ∧ x23.toInt ≤ 6) ∧ x23.toInt ≤ x20.toInt) → (WTr ls l1 h0 h27) → (∀ c : Int, 0 ≤ c → c < x23.toInt → gI h27 46 c ≠ -1) → (SGc ls h27) → ((7 - x23.toInt).toNat) < m25 → uRun oX11_best (uCall Mt (d + 7)) Q 27 ([some (.inr (.inr (some 0))), some (.inl a1), some (.inl x20), some (.inl x23)], [], h27, kc, ks) := by
      intro m25
      induction m25 with
      | zero => intro x23 h27 hO27 hu27 iv31 px28 px29 px30 mm32; omega
      | succ m25 ih26 =>
        intro x23 h27 hO27 hu27 iv31 px28 px29 px30 mm32
        have t33 := fO_of (k := 4) (hu27.ko (n := 5) hc1 rfl (wid_f (by decide)) (by decide)) rfl
        have t34 := fO_of (k := 1) (hu27.ko (n := 11) hc6 rfl (wid_f (by decide)) (by decide)) rfl
        refine ur_ldI rfl rfl ?_
        refine ur_ldI rfl rfl ?_
        have z35 := any_r x23
        have z36 := any_r x20
        refine ur_if2 rfl (fun c37 => ?_) (fun c37 => ?_)
        · have t38 := le_to c37
          refine ur_ldA rfl rfl ?_
          refine ur_get rfl (hu27.ko (n := 8) hc18 rfl (wid_f (by decide)) (by decide)) rfl ?_
          have tt39 := p2_r (k := x20.toInt) (by omega)
          refine ur_ldI rfl rfl ?_
          obtain ⟨f41, f42, hc40, k43⟩ := ok_41 hO27
          refine ur_inl rfl (rcv_of hc40) (Nat.le_of_ble_eq_true rfl) (Nat.le_of_ble_eq_true rfl) (sd_X7_bestSetOf hO27 _ (by show 0 ≤ x20.toInt ∧ x20.toInt ≤ 6; omega) (fun c c0 c1 => px28.r hO0 ⟨c0, by omega⟩ (px29 c c0 (by omega))) (fun w44 hr45 => ?_))
          obtain ⟨x46, rfl, f47⟩ := hr45
          show uRun _ (uCall Mt _) _ 54 (_, [(.inl x46)], _, _, _)
          refine ur_svIk [some (.inr (.inr (some 0))), some (.inl a1), some (.inl x20), some (.inl x46)] rfl rfl ?_
          refine ur_ldI rfl rfl ?_
          refine ur_if1 rfl (fun c48 => ?_) (fun c48 => ?_)
          · have t49 := ne_to c48
            refine ur_ldA rfl rfl ?_
            refine ur_get rfl (hu27.ko (n := 8) hc18 rfl (wid_f (by decide)) (by decide)) rfl ?_
            refine ur_ldI rfl rfl ?_
            refine ur_inl rfl (rcv_of hc40) (Nat.le_of_ble_eq_true rfl) (Nat.le_of_ble_eq_true rfl) (sd_X7_worthOf hO27 _ (by omega) (fun c c0 c1 b => px28.r hO0 ⟨c0, c1⟩ (px29 c c0 (by have l := bt_lt (S := x46) (k := x20.toInt) ⟨by omega, by omega⟩ ⟨c0, by omega⟩ b; omega))) (fun w50 hr51 => ?_))
            obtain ⟨x52, rfl, f53⟩ := hr51
            show uRun _ (uCall Mt _) _ 71 (_, [(.inl x52)], _, _, _)
            exact ur_ret rfl rfl (hQ _ _ ⟨_, rfl, ⟨fun _ => (by obtain ⟨⟨w, F⟩, rr⟩ := f47; exact ⟨x20.toInt, x46.toInt, w, ⟨by omega, by omega, by omega⟩, (BC_of px28 (by omega) (n := x20.toInt) (by omega) (fun c c0 c1 => px29 c c0 (by omega)) F), fun q => by exfalso; omega, fun _ => BV_y px28 (by omega) (fun c c0 c1 b => px29 c c0 (by have l := bt_lt (S := x46) (k := x20.toInt) ⟨by omega, by omega⟩ ⟨c0, by omega⟩ b; omega)) f53.1 (BC_of px28 (by omega) (n := x20.toInt) (by omega) (fun c c0 c1 => px29 c c0 (by omega)) F)⟩), fun q => absurd ⟨by omega, by omega⟩ q⟩⟩ hO27 hu27 px30 (px28.b hO0 hO27 hu27 (by decide)))
          · have t54 := ne_no c48
            refine ur_ldI rfl rfl ?_
            refine ur_go rfl ?_
            exact ur_ret rfl rfl (hQ _ _ ⟨_, rfl, ⟨fun _ => (by obtain ⟨⟨w, F⟩, rr⟩ := f47; exact ⟨x20.toInt, x46.toInt, w, ⟨by omega, by omega, by omega⟩, (BC_of px28 (by omega) (n := x20.toInt) (by omega) (fun c c0 c1 => px29 c c0 (by omega)) F), fun _ => by omega, fun q => by exfalso; omega⟩), fun q => absurd ⟨by omega, by omega⟩ q⟩⟩ hO27 hu27 px30 (px28.b hO0 hO27 hu27 (by decide)))
        · have t55 := le_no c37
          refine ur_ldA rfl rfl ?_
          refine ur_get rfl (hu27.ko (n := 8) hc18 rfl (wid_f (by decide)) (by decide)) rfl ?_
          refine ur_ldI rfl rfl ?_
          obtain ⟨f57, f58, hc56, k59⟩ := ok_41 hO27
          refine ur_inl rfl (rcv_of hc56) (Nat.le_of_ble_eq_true rfl) (Nat.le_of_ble_eq_true rfl) (sz_X7_weighComet hO27 _ (pre0.un hO0 hO27 hu27 (by decide) (by decide)) px30 (pre2.un hO0 hO27 hu27 (by decide)) ((txC_un hO0 hO27 hu27 (by decide) 9 (by decide)).trans pre3) pre4 ((txC_un hO0 hO27 hu27 (by decide) 11 (by decide)).trans pre5) pre6 (pre7.un hO0 hO27 hu27 (by decide)) (pre8.un hO0 hO27 hu27 (by decide)) (pre9.un hO0 hO27 hu27 (by decide)) (px28.b hO0 hO27 hu27 (by decide)) (fun w60 h66 hr61 hO66 hv66 hp62 hp63 hp64 hp65 => ?_))
          have hu66 := hv66
          subst hr61
          show uRun _ (uCall Mt _) _ 40 (_, [], _, _, _)
          refine ur_incV (fun z => [some (.inr (.inr (some 0))), some (.inl a1), some (.inl x20), some (.inl z)]) rfl rfl (fun _ => rfl) (fun x67 e68 => ?_)
          have t69 := ti_add e68 (by omega) (by omega)
          refine ur_go rfl ?_
          have t70 := fO_of (k := 4) (hv66.ko (n := 5) (hu27.ko (n := 5) hc1 rfl (wid_f (by decide)) (by decide)) rfl (wid_f (by decide)) (by decide)) rfl
          have t71 := fO_of (k := 1) (hv66.ko (n := 11) (hu27.ko (n := 11) hc6 rfl (wid_f (by decide)) (by decide)) rfl (wid_f (by decide)) (by decide)) rfl
          have z72 := any_r x67
          exact ih26 x67 _ hO66 (hu27.tr hu66) (by omega) (hp63.c hO0 hO27 hu27 (by decide)) (fun c c0 c1 => by
            by_cases e : c = x23.toInt
            · rw [e]; exact hp65 (by omega)
            · exact hp64 c c0 (by omega) (px29 c c0 (by omega))) hp62 (by omega)
    exact L24 _ 0 _ hO0 un.rf (by omega) pre10 (fun c c0 c1 => by omega) pre1 (Nat.lt_succ_self _)
  · have t73 := wi_noL c16 l_0 l_1
    refine ur_push rfl ?_
    exact ur_ret rfl rfl (hQ _ _ ⟨_, rfl, ⟨fun q => by exfalso; omega, fun _ => by omega⟩⟩ hO0 un.rf pre1 pre10)

end WSC3
