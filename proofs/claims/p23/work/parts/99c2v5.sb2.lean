/-! JUDGE AND BEST: sb2 -/
section WSB2
set_option maxRecDepth 20000 in
set_option maxHeartbeats 4000000 in
theorem se_X7_isSurelyWatched {d kc ks : Nat} {h0 : aH} {Q : Option aV → aH → Prop} {ls : List (List (Int × Int) × List (Int × Int))} {c0 : Int} (hO0 : OK h0) {a1 : Nat} (g1 : 114 ≤ a1) (t1 : tg h0 a1 = (102, 14)) (a2 : Int32) (b2 : -60 ≤ a2.toInt ∧ a2.toInt ≤ 60) (pre0 : SKc h0) (pre1 : SGc ls h0) (pre2 : (0 ≤ c0 ∧ c0 < fO h0 1 4) ∧ cz h0 c0 a1) (pre3 : txC h0 9 = cfl 0 ls) (pre4 : ∀ l ∈ ls, lnG l) (pre5 : fO h0 a1 8 ≤ a2.toInt ∧ a2.toInt ≤ fO h0 a1 9) (hQ : ∀ r h', (∃ q, r = some (.inl (bi q)) ∧ (q = true → SWz ls h0 a1 a2.toInt) ∧ (q = false → ¬ SWz ls h0 a1 a2.toInt)) → OK h' → un [222, 223, 21212] h0 h' → (SGc ls h') → Q r h') : uCall Mt (d + 5) 77 [(.inr (.inr (some 41))), (.inr (.inr (some a1))), (.inl a2)] h0 kc ks Q := by
  have l_0 : ((0) : Int32).toInt = 0 := by decide
  have l_1 : ((1) : Int32).toInt = 1 := by decide
  have l_5 : ((5) : Int32).toInt = 5 := by decide
  have l_120 : ((120) : Int32).toInt = 120 := by decide
  refine uc_ink [some (.inr (.inr (some 41))), some (.inr (.inr (some a1))), some (.inl a2), none, none, none, none, none] mt_77 (Nat.le_of_ble_eq_true rfl) rfl ?_
  obtain ⟨f2, f3, hc1, k4⟩ := ok_41 hO0
  have t5 := fO_of (k := 6) hc1 rfl
  refine ur_ldA rfl rfl ?_
  refine ur_ldI rfl rfl ?_
  obtain ⟨g26, f7, f8, f9, f10, f11, f12, f13, f14, f15, f16, q17, q18, o19, q20, hc6, k21, k22, k23, k24, k25⟩ := hO0.comet t1
  refine ur_inl rfl (rcv_of hc6) (Nat.le_of_ble_eq_true rfl) (Nat.le_of_ble_eq_true rfl) (sd_X2_passOf hO0 g26 t1 _ (by show -60 ≤ a2.toInt ∧ a2.toInt ≤ 60; omega) (fun w27 hr28 => ?_))
  obtain ⟨x29, rfl, f30⟩ := hr28
  show uRun _ (uCall Mt _) _ 5 (_, [(.inl x29)], _, _, _)
  have tt31 : x29.toInt = cf h0 a1 a2.toInt := by unfold cf; rw [if_pos (by omega)]; exact f30
  have tt32 := pre0.rg pre2.1 pre2.2 (k := a2.toInt) (by omega)
  refine ur_svIk [some (.inr (.inr (some 41))), some (.inr (.inr (some a1))), some (.inl a2), some (.inl x29), none, none, none, none] rfl rfl ?_
  refine ur_push rfl ?_
  refine ur_svIk [some (.inr (.inr (some 41))), some (.inr (.inr (some a1))), some (.inl a2), some (.inl x29), some (.inl 0), none, none, none] rfl rfl ?_
  have L37 : ∀ (m38 : Nat) (x33 : Int32) (u34 : Option aV) (u35 : Option aV) (u36 : Option aV) (h40 : aH) , OK h40 → un [222, 223, 21212] h0 h40 → ((0 ≤ x33.toInt ∧ x33.toInt ≤ 10) ∧ x33.toInt ≤ fO h0 41 6) → (LKq 0 x33.toInt (SWi ls h0 a1 a2.toInt)) → (SGc ls h40) → ((11 - x33.toInt).toNat) < m38 → uRun oX7_isSurelyWatched (uCall Mt (d + 4)) Q 9 ([some (.inr (.inr (some 41))), some (.inr (.inr (some a1))), some (.inl a2), some (.inl x29), some (.inl x33), u34, u35, u36], [], h40, kc, ks) := by
    intro m38
    induction m38 with
    | zero => intro x33 u34 u35 u36 h40 hO40 hu40 iv43 px41 px42 mm44; omega
    | succ m38 ih39 =>
      intro x33 u34 u35 u36 h40 hO40 hu40 iv43 px41 px42 mm44
      have t45 := fO_of (k := 6) (hu40.ko (n := 15) hc1 rfl (wid_f (by decide)) (by decide)) rfl
      refine ur_ldI rfl rfl ?_
      refine ur_ldA rfl rfl ?_
      refine ur_get rfl (hu40.ko (n := 15) hc1 rfl (wid_f (by decide)) (by decide)) rfl ?_
      have z46 := any_r x33
      have z47 := any_r f2
      refine ur_if2 rfl (fun c48 => ?_) (fun c48 => ?_)
      · have t49 := le_to c48
        refine ur_push rfl ?_
        exact ur_ret rfl rfl (hQ _ _ ⟨false, rfl, fun e => absurd e (by decide), fun _ => (fun ⟨i, hi, q⟩ => px41 i hi.1 (by omega) q)⟩ hO40 hu40 px42)
      · have t50 := le_no c48
        refine ur_ldA rfl rfl ?_
        refine ur_get rfl (hu40.ko (n := 15) hc1 rfl (wid_f (by decide)) (by decide)) rfl ?_
        refine ur_ldI rfl rfl ?_
        obtain ⟨xs52, hc51, hn53, he54⟩ := hO40.int (hO40.fix 44 (by decide) rfl)
        refine ur_aldV rfl hc51 hn53 (by omega) (fun x55 hx56 => ?_)
        have t57 := gI_of (j := x33) hc51 hx56
        have t58 := gI_keep (a := 44) (kd := 0) (n := 10) hO0 hu40 (x33 : Int32).toInt (by decide) rfl (by decide) rfl (by decide) (by decide)
        have t59 : 0 ≤ x55.toInt ∧ x55.toInt ≤ 999999 := he54 _ _ hx56
        refine ur_ldI rfl rfl ?_
        refine ur_push rfl ?_
        refine ur_binV rfl (fun x60 e61 => ?_)
        have z62 := any_r x29
        have t63 := ti_add e61 (by omega) (by omega)
        refine ur_minV rfl (by show ¬ 9 ≤ 2; decide) (fun x64 t65 e66 => ?_)
        refine ur_svIk [some (.inr (.inr (some 41))), some (.inr (.inr (some a1))), some (.inl a2), some (.inl x29), some (.inl x33), some (.inl x64), u35, u36] rfl rfl ?_
        refine ur_push rfl ?_
        refine ur_svIk [some (.inr (.inr (some 41))), some (.inr (.inr (some a1))), some (.inl a2), some (.inl x29), some (.inl x33), some (.inl x64), some (.inl 0), u36] rfl rfl ?_
        refine ur_ldA rfl rfl ?_
        refine ur_get rfl (hu40.ko (n := 15) hc1 rfl (wid_f (by decide)) (by decide)) rfl ?_
        refine ur_ldI rfl rfl ?_
        obtain ⟨xs68, hc67, hn69, he70⟩ := hO40.int (hO40.fix 43 (by decide) rfl)
        refine ur_aldV rfl hc67 hn69 (by omega) (fun x71 hx72 => ?_)
        have t73 := gI_of (j := x33) hc67 hx72
        have t74 := gI_keep (a := 43) (kd := 0) (n := 10) hO0 hu40 (x33 : Int32).toInt (by decide) rfl (by decide) rfl (by decide) (by decide)
        have t75 : 0 ≤ x71.toInt ∧ x71.toInt ≤ 999999 := he70 _ _ hx72
        refine ur_ldI rfl rfl ?_
        refine ur_push rfl ?_
        refine ur_binV rfl (fun x76 e77 => ?_)
        have t78 := ti_sub e77 (by omega) (by omega)
        refine ur_maxV rfl (by show ¬ 9 ≤ 2; decide) (fun x79 t80 e81 => ?_)
        refine ur_svIk [some (.inr (.inr (some 41))), some (.inr (.inr (some a1))), some (.inl a2), some (.inl x29), some (.inl x33), some (.inl x64), some (.inl 0), some (.inl x79)] rfl rfl ?_
        have L84 : ∀ (m85 : Nat) (x82 : Int32) (x83 : Int32) (h87 : aH) , OK h87 → un [222, 223, 21212] h40 h87 → ((0 ≤ x83.toInt ∧ x83.toInt ≤ 1000001) ∧ (0 ≤ x82.toInt ∧ x82.toInt ≤ 4) ∧ (x83.toInt ≤ x64.toInt + 1 ∨ x82.toInt = 0)) → (SWl (fun d => canP ls (fO h0 a1 2) (fO h0 a1 4) (fO h0 a1 3) (fO h0 a1 5) (gI h0 42 x33.toInt) (cf h0 a1 a2.toInt) d) (gI h0 43 x33.toInt) (cf h0 a1 a2.toInt) x83.toInt x82.toInt) → (SGc ls h87) → ((1000002 - x83.toInt).toNat) < m85 → uRun oX7_isSurelyWatched (uCall Mt (d + 4)) Q 53 ([some (.inr (.inr (some 41))), some (.inr (.inr (some a1))), some (.inl a2), some (.inl x29), some (.inl x33), some (.inl x64), some (.inl x82), some (.inl x83)], [], h87, kc, ks) := by
          intro m85
          induction m85 with
          | zero => intro x82 x83 h87 hO87 hu87 iv90 px88 px89 mm91; omega
          | succ m85 ih86 =>
            intro x82 x83 h87 hO87 hu87 iv90 px88 px89 mm91
            refine ur_ldI rfl rfl ?_
            refine ur_ldI rfl rfl ?_
            have z92 := any_r x83
            have z93 := any_r x64
            refine ur_if2 rfl (fun c94 => ?_) (fun c94 => ?_)
            · have t95 := lt_to c94
              refine ur_incV (fun z => [some (.inr (.inr (some 41))), some (.inr (.inr (some a1))), some (.inl a2), some (.inl x29), some (.inl z), some (.inl x64), some (.inl x82), some (.inl x83)]) rfl rfl (fun _ => rfl) (fun x96 e97 => ?_)
              have t98 := ti_add e97 (by omega) (by omega)
              refine ur_go rfl ?_
              have t99 := fO_of (k := 6) (hu87.ko (n := 15) (hu40.ko (n := 15) hc1 rfl (wid_f (by decide)) (by decide)) rfl (wid_f (by decide)) (by decide)) rfl
              have z100 := any_r x96
              exact ih39 x96 _ _ _ _ hO87 (hu40.tr hu87) (by omega) (px41.s (fun q => (SWl.n (b := gI h0 44 x33.toInt) (hi := x64.toInt) px88 (by omega) (by omega) (by omega)) q) (by omega)) px89 (by omega)
            · have t101 := lt_no c94
              refine ur_ldA rfl rfl ?_
              refine ur_get rfl (hu87.ko (n := 15) (hu40.ko (n := 15) hc1 rfl (wid_f (by decide)) (by decide)) rfl (wid_f (by decide)) (by decide)) rfl ?_
              have t102 := fO_of (k := 6) (hu87.ko (n := 15) (hu40.ko (n := 15) hc1 rfl (wid_f (by decide)) (by decide)) rfl (wid_f (by decide)) (by decide)) rfl
              refine ur_ldA rfl rfl ?_
              refine ur_ldA rfl rfl ?_
              refine ur_get rfl (hu87.ko (n := 15) (hu40.ko (n := 15) hc1 rfl (wid_f (by decide)) (by decide)) rfl (wid_f (by decide)) (by decide)) rfl ?_
              refine ur_ldI rfl rfl ?_
              obtain ⟨xs104, hc103, hn105, he106⟩ := hO87.int (hO87.fix 42 (by decide) rfl)
              refine ur_aldV rfl hc103 hn105 (by omega) (fun x107 hx108 => ?_)
              have t109 := gI_of (j := x33) hc103 hx108
              have t110 := gI_keep (a := 42) (kd := 0) (n := 10) hO0 (hu40.tr hu87) (x33 : Int32).toInt (by decide) rfl (by decide) rfl (by decide) (by decide)
              have t111 : 0 ≤ x107.toInt ∧ x107.toInt ≤ 8 := he106 _ _ hx108
              refine ur_ldI rfl rfl ?_
              refine ur_push rfl ?_
              refine ur_ldI rfl rfl ?_
              obtain ⟨f113, hc112, k114⟩ := ok_8 hO87
              refine ur_inl rfl (rcv_of hc112) (Nat.le_of_ble_eq_true rfl) (Nat.le_of_ble_eq_true rfl) (sd_X5_seenOn hO87 g26 (hu87.tm (hu40.tm t1 (by decide)) (by decide)) _ (by show 0 ≤ x107.toInt ∧ x107.toInt ≤ 8; omega) _ (by show -60 ≤ a2.toInt ∧ a2.toInt ≤ 60; omega) _ (by show -1000000 ≤ (0 : Int32).toInt ∧ (0 : Int32).toInt ≤ 1000000; omega) _ (by show 0 ≤ x83.toInt ∧ x83.toInt ≤ 999999; omega) ((pre0.un hO0 hO40 hu40 (by decide)).un hO40 hO87 hu87 (by decide)) px89 (cz_un hO0 hO87 (hu40.tr hu87) pre2 (by decide) (by decide)) ((txC_un hO0 hO87 (hu40.tr hu87) (by decide) 9 (by decide)).trans pre3) pre4 (by rw [fO_eA (fC_un hO0 (hu40.tr hu87) g1 t1 (k := 8) (by decide) (by decide)), fO_eA (fC_un hO0 (hu40.tr hu87) g1 t1 (k := 9) (by decide) (by decide))]; exact pre5) (fun w115 h118 hr116 hO118 hv118 hp117 => ?_))
              have hu118 := hv118
              obtain ⟨b119, rfl, t120, t121⟩ := hr116
              show uRun _ (uCall Mt _) _ 79 (_, [(.inl (bi b119))], _, _, _)
              refine ur_eqB rfl (fun c122 => ?_) (fun c122 => ?_)
              · have t123 := t121 c122
                clear t120 t121
                refine ur_ldI rfl rfl ?_
                refine ur_push rfl ?_
                refine ur_if2 rfl (fun c124 => ?_) (fun c124 => ?_)
                · have t125 := lt_to c124
                  refine ur_incV (fun z => [some (.inr (.inr (some 41))), some (.inr (.inr (some a1))), some (.inl a2), some (.inl x29), some (.inl x33), some (.inl x64), some (.inl x82), some (.inl z)]) rfl rfl (fun _ => rfl) (fun x126 e127 => ?_)
                  have t128 := ti_add e127 (by omega) (by omega)
                  refine ur_go rfl ?_
                  have t129 := fO_of (k := 6) (hv118.ko (n := 15) (hu87.ko (n := 15) (hu40.ko (n := 15) hc1 rfl (wid_f (by decide)) (by decide)) rfl (wid_f (by decide)) (by decide)) rfl (wid_f (by decide)) (by decide)) rfl
                  have z130 := any_r x82
                  have z131 := any_r x126
                  exact ih86 x82 x126 _ hO118 (hu87.tr hu118) (by omega) (SWl.s (d' := x126.toInt) (n' := x82.toInt) px88 (by omega) (Or.inr ⟨(by have q := t123; rw [fO_eA (fC_un hO0 (hu40.tr hu87) g1 t1 (k := 2) (by decide) (by decide)), fO_eA (fC_un hO0 (hu40.tr hu87) g1 t1 (k := 3) (by decide) (by decide)), fO_eA (fC_un hO0 (hu40.tr hu87) g1 t1 (k := 4) (by decide) (by decide)), fO_eA (fC_un hO0 (hu40.tr hu87) g1 t1 (k := 5) (by decide) (by decide)), cf_un hO0 (hu40.tr hu87) g1 t1 (by decide), l_0, Int.add_zero, show x107.toInt = gI h0 42 x33.toInt by omega] at q; exact q), by omega⟩)) hp117 (by omega)
                · have t132 := lt_no c124
                  exfalso
                  omega
              · have t133 := t120 c122
                clear t120 t121
                refine ur_incV (fun z => [some (.inr (.inr (some 41))), some (.inr (.inr (some a1))), some (.inl a2), some (.inl x29), some (.inl x33), some (.inl x64), some (.inl z), some (.inl x83)]) rfl rfl (fun _ => rfl) (fun x134 e135 => ?_)
                have z136 := any_r x82
                have t137 := ti_add e135 (by omega) (by omega)
                refine ur_ldI rfl rfl ?_
                refine ur_push rfl ?_
                refine ur_if2 rfl (fun c138 => ?_) (fun c138 => ?_)
                · have t139 := lt_to c138
                  refine ur_incV (fun z => [some (.inr (.inr (some 41))), some (.inr (.inr (some a1))), some (.inl a2), some (.inl x29), some (.inl x33), some (.inl x64), some (.inl x134), some (.inl z)]) rfl rfl (fun _ => rfl) (fun x140 e141 => ?_)
                  have t142 := ti_add e141 (by omega) (by omega)
                  refine ur_go rfl ?_
                  have t143 := fO_of (k := 6) (hv118.ko (n := 15) (hu87.ko (n := 15) (hu40.ko (n := 15) hc1 rfl (wid_f (by decide)) (by decide)) rfl (wid_f (by decide)) (by decide)) rfl (wid_f (by decide)) (by decide)) rfl
                  have z144 := any_r x134
                  have z145 := any_r x140
                  exact ih86 x134 x140 _ hO118 (hu87.tr hu118) (by omega) (SWl.s (d' := x140.toInt) (n' := x134.toInt) px88 (by omega) (Or.inl ⟨(by have q := t133; rw [fO_eA (fC_un hO0 (hu40.tr hu87) g1 t1 (k := 2) (by decide) (by decide)), fO_eA (fC_un hO0 (hu40.tr hu87) g1 t1 (k := 3) (by decide) (by decide)), fO_eA (fC_un hO0 (hu40.tr hu87) g1 t1 (k := 4) (by decide) (by decide)), fO_eA (fC_un hO0 (hu40.tr hu87) g1 t1 (k := 5) (by decide) (by decide)), cf_un hO0 (hu40.tr hu87) g1 t1 (by decide), l_0, Int.add_zero, show x107.toInt = gI h0 42 x33.toInt by omega] at q; exact q), by omega⟩)) hp117 (by omega)
                · have t146 := lt_no c138
                  refine ur_push rfl ?_
                  have t147 := fO_of (k := 6) (hv118.ko (n := 15) (hu87.ko (n := 15) (hu40.ko (n := 15) hc1 rfl (wid_f (by decide)) (by decide)) rfl (wid_f (by decide)) (by decide)) rfl (wid_f (by decide)) (by decide)) rfl
                  exact ur_ret rfl rfl (hQ _ _ ⟨true, rfl, fun _ => ⟨x33.toInt, ⟨by omega, by omega⟩, (SWl.y (b := gI h0 44 x33.toInt) (hi := x64.toInt) (SWl.s (d' := x83.toInt + 1) (n' := x134.toInt) px88 (by omega) (Or.inl ⟨(by have q := t133; rw [fO_eA (fC_un hO0 (hu40.tr hu87) g1 t1 (k := 2) (by decide) (by decide)), fO_eA (fC_un hO0 (hu40.tr hu87) g1 t1 (k := 3) (by decide) (by decide)), fO_eA (fC_un hO0 (hu40.tr hu87) g1 t1 (k := 4) (by decide) (by decide)), fO_eA (fC_un hO0 (hu40.tr hu87) g1 t1 (k := 5) (by decide) (by decide)), cf_un hO0 (hu40.tr hu87) g1 t1 (by decide), l_0, Int.add_zero, show x107.toInt = gI h0 42 x33.toInt by omega] at q; exact q), by omega⟩)) (by omega) (by omega) (by omega))⟩, fun e => absurd e (by decide)⟩ hO118 (hu40.tr (hu87.tr hu118)) hp117)
        have z148 := any_r x79
        exact L84 _ 0 x79 _ hO40 un.rf (by omega) (SWl.z (by omega) (by omega)) px42 (Nat.lt_succ_self _)
  exact L37 _ 0 (none) (none) (none) _ hO0 un.rf (by omega) (LKq.z (by omega)) pre1 (Nat.lt_succ_self _)

set_option maxRecDepth 20000 in
set_option maxHeartbeats 4000000 in
theorem sd_X7_isNewRoot {d kc ks : Nat} {h0 : aH} {Q : Option aV → aH → Prop} (hO0 : OK h0) {a1 : Nat} (g1 : 114 ≤ a1) (t1 : tg h0 a1 = (110, 13)) (a2 : Int32) (b2 : 0 ≤ a2.toInt ∧ a2.toInt ≤ 11) (pre0 : 0 ≤ fO h0 a1 0 ∧ fO h0 a1 0 ≤ 149) (hQ : ∀ r, (∃ q, r = some (.inl (bi q)) ∧ (q = true → (fO h0 a1 1 ≠ 3 ∧ ¬ tb (gL h0 45 (3 * a2.toInt + fO h0 a1 0 / 64)) (fO h0 a1 0 % 64))) ∧ (q = false → ¬ (fO h0 a1 1 ≠ 3 ∧ ¬ tb (gL h0 45 (3 * a2.toInt + fO h0 a1 0 / 64)) (fO h0 a1 0 % 64)))) → Q r h0) : uCall Mt (d + 2) 76 [(.inr (.inr (some 41))), (.inr (.inr (some a1))), (.inl a2)] h0 kc ks Q := by
  have l_0 : ((0) : Int32).toInt = 0 := by decide
  have l_1 : ((1) : Int32).toInt = 1 := by decide
  have l_3 : ((3) : Int32).toInt = 3 := by decide
  have l_6 : ((6) : Int32).toInt = 6 := by decide
  have l_63 : ((63) : Int32).toInt = 63 := by decide
  refine uc_ink [some (.inr (.inr (some 41))), some (.inr (.inr (some a1))), some (.inl a2), none] mt_76 (Nat.le_of_ble_eq_true rfl) rfl ?_
  obtain ⟨g17, f2, f3, f4, f5, f6, f7, f8, f9, f10, o14, f11, f12, f13, hc1, k15, k16⟩ := hO0.word t1
  have t18 := fO_of (k := 0) hc1 rfl
  have t19 := fO_of (k := 1) hc1 rfl
  refine ur_ldI rfl rfl ?_
  refine ur_push rfl ?_
  refine ur_binV rfl (fun x20 e21 => ?_)
  have z22 := any_r a2
  have t23 := ti_mulL e21 l_3 (by omega) (by omega)
  refine ur_ldA rfl rfl ?_
  refine ur_get rfl hc1 rfl ?_
  refine ur_push rfl ?_
  refine ur_binV rfl (fun x24 e25 => ?_)
  have z26 := any_r f2
  have t27 := shr_6 e25
  refine ur_binV rfl (fun x28 e29 => ?_)
  have z30 := any_r x20
  have z31 := any_r x24
  have t32 := ti_add e29 (by omega) (by omega)
  refine ur_svIk [some (.inr (.inr (some 41))), some (.inr (.inr (some a1))), some (.inl a2), some (.inl x28)] rfl rfl ?_
  refine ur_ldA rfl rfl ?_
  refine ur_get rfl hc1 rfl ?_
  refine ur_push rfl ?_
  refine ur_if2 rfl (fun c33 => ?_) (fun c33 => ?_)
  · have t34 := eq_to c33
    refine ur_push rfl ?_
    exact ur_ret rfl rfl (hQ _ ⟨false, rfl, fun e => absurd e (by decide), fun _ => (fun q => by have k := q.1; omega)⟩ )
  · have t35 := eq_no c33
    refine ur_ldI rfl rfl ?_
    refine ur_push rfl ?_
    refine ur_ldA rfl rfl ?_
    obtain ⟨f37, f38, hc36, k39⟩ := ok_41 hO0
    refine ur_get rfl hc36 rfl ?_
    obtain ⟨xs41, hc40, hn42⟩ := hO0.lon (hO0.fix 45 (by decide) rfl)
    refine ur_lenV (m := 36) rfl hc40 hn42 (by decide) (fun x44 t45 => ?_)
    refine ur_push rfl ?_
    refine ur_binV rfl (fun x46 e47 => ?_)
    have z48 := any_r x44
    have t49 := ti_sub e47 (by omega) (by omega)
    refine ur_callv rfl rfl (Nat.le_of_ble_eq_true rfl) (Nat.le_of_ble_eq_true rfl) rfl (sp_within _ _ _ _ _) ?_
    refine ur_eqB rfl (fun c52 => ?_) (fun c52 => ?_)
    · have t53 := wi_no c52
      refine ur_push rfl ?_
      exact ur_ret rfl rfl (hQ _ ⟨false, rfl, fun e => absurd e (by decide), fun _ => (fun q => by have k := q.1; omega)⟩ )
    · have t54 := wi_to c52
      refine ur_ldA rfl rfl ?_
      refine ur_get rfl hc36 rfl ?_
      refine ur_ldI rfl rfl ?_
      refine ur_aldJV rfl hc40 hn42 (by omega) (fun y55 hx56 => ?_)
      have g57 := gL_of (j := x28) hc40 hx56
      refine ur_ldA rfl rfl ?_
      refine ur_get rfl hc1 rfl ?_
      refine ur_push rfl ?_
      refine ur_binV rfl (fun x58 e59 => ?_)
      have tt60 := and_63 e59 (by omega)
      refine ur_shJV rfl (fun y61 e62 => ?_)
      refine ur_push rfl ?_
      refine ur_binJV rfl (fun y63 e64 => ?_)
      refine ur_push rfl ?_
      refine ur_cmpJV rfl (fun x65 e66 => ?_)
      refine ur_if1 rfl (fun c67 => ?_) (fun c67 => ?_)
      · have t68 := ne_to c67
        refine ur_push rfl ?_
        exact ur_ret rfl rfl (hQ _ ⟨false, rfl, fun e => absurd e (by decide), fun _ => (fun q => absurd ((show x65.toInt = 0 ↔ ¬ tb (gL h0 45 (3 * a2.toInt + fO h0 a1 0 / 64)) (fO h0 a1 0 % 64) from by have q := tb_sh e62 e64 e66 (by omega); rw [← g57, show x28.toInt = 3 * a2.toInt + fO h0 a1 0 / 64 by omega, show x58.toInt = fO h0 a1 0 % 64 by omega] at q; exact q).mpr q.2) (by omega))⟩ )
      · have t69 := ne_no c67
        refine ur_push rfl ?_
        refine ur_go rfl ?_
        exact ur_ret rfl rfl (hQ _ ⟨true, rfl, fun _ => ⟨by omega, (show x65.toInt = 0 ↔ ¬ tb (gL h0 45 (3 * a2.toInt + fO h0 a1 0 / 64)) (fO h0 a1 0 % 64) from by have q := tb_sh e62 e64 e66 (by omega); rw [← g57, show x28.toInt = 3 * a2.toInt + fO h0 a1 0 / 64 by omega, show x58.toInt = fO h0 a1 0 % 64 by omega] at q; exact q).mp (by omega)⟩, fun e => absurd e (by decide)⟩ )

set_option maxRecDepth 20000 in
set_option maxHeartbeats 4000000 in
theorem sd_X7_worthOf {d kc ks : Nat} {h0 : aH} {Q : Option aV → aH → Prop} (hO0 : OK h0) (a1 : Int32) (pre0 : 0 ≤ a1.toInt ∧ a1.toInt ≤ 4095) (pre1 : ∀ c : Int, 0 ≤ c → c < 12 → bt a1 c = 1 → 0 ≤ gI h0 46 c ∧ gI h0 46 c ≤ 121) (hQ : ∀ r, (∃ x : Int32, r = some (.inl x) ∧ (x.toInt = WVx (fun j c => BTz h0 j c) (fun c => gI h0 46 c) 192 a1 ∧ -1612 ≤ x.toInt ∧ x.toInt ≤ 576)) → Q r h0) : uCall Mt (d + 2) 78 [(.inr (.inr (some 41))), (.inl a1)] h0 kc ks Q := by
  have l_m5 : ((-5) : Int32).toInt = -5 := by decide
  have l_0 : ((0) : Int32).toInt = 0 := by decide
  have l_1 : ((1) : Int32).toInt = 1 := by decide
  have l_2 : ((2) : Int32).toInt = 2 := by decide
  have l_3 : ((3) : Int32).toInt = 3 := by decide
  have l_12 : ((12) : Int32).toInt = 12 := by decide
  refine uc_ink [some (.inr (.inr (some 41))), some (.inl a1), none, none, none, none, none, none, none, none] mt_78 (Nat.le_of_ble_eq_true rfl) rfl ?_
  refine ur_push rfl ?_
  refine ur_ldI rfl rfl ?_
  refine ur_inl rfl rfl (Nat.le_of_ble_eq_true rfl) (Nat.le_of_ble_eq_true rfl) (sy_bcI _ (fun w1 hr2 => ?_))
  obtain ⟨x3, rfl, f4⟩ := hr2
  show uRun _ (uCall Mt _) _ 6 (_, [(.inl x3), (.inl (-5))], _, _, _)
  refine ur_binV rfl (fun x5 e6 => ?_)
  have z7 := any_r x3
  have t8 := ti_mulR e6 l_m5 (by omega) (by omega)
  refine ur_svIk [some (.inr (.inr (some 41))), some (.inl a1), some (.inl x5), none, none, none, none, none, none, none] rfl rfl ?_
  refine ur_push rfl ?_
  refine ur_svJk [some (.inr (.inr (some 41))), some (.inl a1), some (.inl x5), some (.inr (.inl 0)), none, none, none, none, none, none] rfl rfl ?_
  refine ur_push rfl ?_
  refine ur_svJk [some (.inr (.inr (some 41))), some (.inl a1), some (.inl x5), some (.inr (.inl 0)), none, some (.inr (.inl 0)), none, none, none, none] rfl rfl ?_
  refine ur_push rfl ?_
  refine ur_svJk [some (.inr (.inr (some 41))), some (.inl a1), some (.inl x5), some (.inr (.inl 0)), none, some (.inr (.inl 0)), none, some (.inr (.inl 0)), none, none] rfl rfl ?_
  refine ur_push rfl ?_
  refine ur_svIk [some (.inr (.inr (some 41))), some (.inl a1), some (.inl x5), some (.inr (.inl 0)), none, some (.inr (.inl 0)), none, some (.inr (.inl 0)), none, some (.inl 0)] rfl rfl ?_
  have L14 : ∀ (m15 : Nat) (x9 : Int32) (y10 : Int64) (y11 : Int64) (y12 : Int64) (x13 : Int32) , ((-1612 ≤ x9.toInt ∧ x9.toInt ≤ 0) ∧ (0 ≤ x13.toInt ∧ x13.toInt ≤ 12) ∧ -160 - 121 * x13.toInt ≤ x9.toInt) → (x9.toInt = -5 * (nb (nuI a1) 32 : Int) - smW a1 (fun c => gI h0 46 c - 5) x13.toInt.toNat) → (BOr y10 (BSk h0 a1 x13.toInt 0)) → (BOr y11 (BSk h0 a1 x13.toInt 1)) → (BOr y12 (BSk h0 a1 x13.toInt 2)) → ((13 - x13.toInt).toNat) < m15 → uRun oX7_worthOf (uCall Mt (d + 1)) Q 19 ([some (.inr (.inr (some 41))), some (.inl a1), some (.inl x9), some (.inr (.inl y10)), none, some (.inr (.inl y11)), none, some (.inr (.inl y12)), none, some (.inl x13)], [], h0, kc, ks) := by
    intro m15
    induction m15 with
    | zero => intro x9 y10 y11 y12 x13 iv21 px17 px18 px19 px20 mm22; omega
    | succ m15 ih16 =>
      intro x9 y10 y11 y12 x13 iv21 px17 px18 px19 px20 mm22
      refine ur_ldI rfl rfl ?_
      refine ur_push rfl ?_
      refine ur_if2 rfl (fun c23 => ?_) (fun c23 => ?_)
      · have t24 := le_to c23
        refine ur_ldI rfl rfl ?_
        refine ur_push rfl ?_
        refine ur_ldJ rfl rfl ?_
        refine ur_inl rfl rfl (Nat.le_of_ble_eq_true rfl) (Nat.le_of_ble_eq_true rfl) (sy_bcJ _ (fun w25 hr26 => ?_))
        obtain ⟨x27, rfl, f28⟩ := hr26
        show uRun _ (uCall Mt _) _ 104 (_, [(.inl x27), (.inl 3), (.inl x9)], _, _, _)
        refine ur_ldJ rfl rfl ?_
        refine ur_inl rfl rfl (Nat.le_of_ble_eq_true rfl) (Nat.le_of_ble_eq_true rfl) (sy_bcJ _ (fun w29 hr30 => ?_))
        obtain ⟨x31, rfl, f32⟩ := hr30
        show uRun _ (uCall Mt _) _ 109 (_, [(.inl x31), (.inl x27), (.inl 3), (.inl x9)], _, _, _)
        refine ur_binV rfl (fun x33 e34 => ?_)
        have z35 := any_r x27
        have z36 := any_r x31
        have t37 := ti_add e34 (by omega) (by omega)
        refine ur_ldJ rfl rfl ?_
        refine ur_inl rfl rfl (Nat.le_of_ble_eq_true rfl) (Nat.le_of_ble_eq_true rfl) (sy_bcJ _ (fun w38 hr39 => ?_))
        obtain ⟨x40, rfl, f41⟩ := hr39
        show uRun _ (uCall Mt _) _ 115 (_, [(.inl x40), (.inl x33), (.inl 3), (.inl x9)], _, _, _)
        refine ur_binV rfl (fun x42 e43 => ?_)
        have z44 := any_r x33
        have z45 := any_r x40
        have t46 := ti_add e43 (by omega) (by omega)
        refine ur_binV rfl (fun x47 e48 => ?_)
        have z49 := any_r x42
        have t50 := ti_mulR e48 l_3 (by omega) (by omega)
        refine ur_binV rfl (fun x51 e52 => ?_)
        have z53 := any_r x9
        have z54 := any_r x47
        have t55 := ti_add e52 (by omega) (by omega)
        exact ur_ret rfl rfl (hQ _ ⟨_, rfl, ⟨WVx.o (S := a1) (y0 := y10) (y1 := y11) (y2 := y12) (b := x3.toInt) (n0 := x27.toInt) (n1 := x31.toInt) (n2 := x40.toInt) (u := x9.toInt) (w := x51.toInt) pre0 (by omega) (by have q := px18; rw [show x13.toInt = 12 by omega] at q; exact q) (by have q := px19; rw [show x13.toInt = 12 by omega] at q; exact q) (by have q := px20; rw [show x13.toInt = 12 by omega] at q; exact q) f28.1 f32.1 f41.1 (by have q := px17; rw [show x13.toInt.toNat = 12 by omega] at q; omega) (by omega), by omega, by omega⟩⟩ )
      · have t56 := le_no c23
        refine ur_ldI rfl rfl ?_
        refine ur_ldI rfl rfl ?_
        refine ur_binV rfl (fun x57 e58 => ?_)
        have z59 := any_r a1
        have z60 := any_r x13
        refine ur_push rfl ?_
        refine ur_binV rfl (fun x61 e62 => ?_)
        have t63 := and_1 e62
        have t64 := bt_of e58 e62
        refine ur_if1 rfl (fun c65 => ?_) (fun c65 => ?_)
        · have t66 := ne_to c65
          refine ur_ldI rfl rfl ?_
          refine ur_ldA rfl rfl ?_
          obtain ⟨f68, f69, hc67, k70⟩ := ok_41 hO0
          refine ur_get rfl hc67 rfl ?_
          refine ur_ldI rfl rfl ?_
          obtain ⟨xs72, hc71, hn73, he74⟩ := hO0.int (hO0.fix 46 (by decide) rfl)
          refine ur_aldV rfl hc71 hn73 (by omega) (fun x75 hx76 => ?_)
          have t77 := gI_of (j := x13) hc71 hx76
          have tt78 := pre1 x13.toInt (by omega) (by omega) (by omega)
          refine ur_binV rfl (fun x79 e80 => ?_)
          have z81 := any_r x9
          have z82 := any_r x75
          have t83 := ti_sub e80 (by omega) (by omega)
          refine ur_svIk [some (.inr (.inr (some 41))), some (.inl a1), some (.inl x79), some (.inr (.inl y10)), none, some (.inr (.inl y11)), none, some (.inr (.inl y12)), none, some (.inl x13)] rfl rfl ?_
          refine ur_ldJ rfl rfl ?_
          refine ur_ldA rfl rfl ?_
          refine ur_get rfl hc67 rfl ?_
          refine ur_ldI rfl rfl ?_
          refine ur_push rfl ?_
          refine ur_binV rfl (fun x84 e85 => ?_)
          have t86 := ti_mulL e85 l_3 (by omega) (by omega)
          obtain ⟨xs88, hc87, hn89⟩ := hO0.lon (hO0.fix 45 (by decide) rfl)
          refine ur_aldJV rfl hc87 hn89 (by omega) (fun y91 hx92 => ?_)
          have g93 := gL_of (j := x84) hc87 hx92
          refine ur_binJV rfl (fun y94 e95 => ?_)
          refine ur_svJk [some (.inr (.inr (some 41))), some (.inl a1), some (.inl x79), some (.inr (.inl y94)), none, some (.inr (.inl y11)), none, some (.inr (.inl y12)), none, some (.inl x13)] rfl rfl ?_
          refine ur_ldJ rfl rfl ?_
          refine ur_ldA rfl rfl ?_
          refine ur_get rfl hc67 rfl ?_
          refine ur_ldI rfl rfl ?_
          refine ur_push rfl ?_
          refine ur_binV rfl (fun x96 e97 => ?_)
          have t98 := ti_mulL e97 l_3 (by omega) (by omega)
          refine ur_push rfl ?_
          refine ur_binV rfl (fun x99 e100 => ?_)
          have z101 := any_r x96
          have t102 := ti_add e100 (by omega) (by omega)
          refine ur_aldJV rfl hc87 hn89 (by omega) (fun y103 hx104 => ?_)
          have g105 := gL_of (j := x99) hc87 hx104
          refine ur_binJV rfl (fun y106 e107 => ?_)
          refine ur_svJk [some (.inr (.inr (some 41))), some (.inl a1), some (.inl x79), some (.inr (.inl y94)), none, some (.inr (.inl y106)), none, some (.inr (.inl y12)), none, some (.inl x13)] rfl rfl ?_
          refine ur_ldJ rfl rfl ?_
          refine ur_ldA rfl rfl ?_
          refine ur_get rfl hc67 rfl ?_
          refine ur_ldI rfl rfl ?_
          refine ur_push rfl ?_
          refine ur_binV rfl (fun x108 e109 => ?_)
          have t110 := ti_mulL e109 l_3 (by omega) (by omega)
          refine ur_push rfl ?_
          refine ur_binV rfl (fun x111 e112 => ?_)
          have z113 := any_r x108
          have t114 := ti_add e112 (by omega) (by omega)
          refine ur_aldJV rfl hc87 hn89 (by omega) (fun y115 hx116 => ?_)
          have g117 := gL_of (j := x111) hc87 hx116
          refine ur_binJV rfl (fun y118 e119 => ?_)
          refine ur_svJk [some (.inr (.inr (some 41))), some (.inl a1), some (.inl x79), some (.inr (.inl y94)), none, some (.inr (.inl y106)), none, some (.inr (.inl y118)), none, some (.inl x13)] rfl rfl ?_
          refine ur_incV (fun z => [some (.inr (.inr (some 41))), some (.inl a1), some (.inl x79), some (.inr (.inl y94)), none, some (.inr (.inl y106)), none, some (.inr (.inl y118)), none, some (.inl z)]) rfl rfl (fun _ => rfl) (fun x120 e121 => ?_)
          have t122 := ti_add e121 (by omega) (by omega)
          refine ur_go rfl ?_
          have z123 := any_r x79
          have z124 := any_r x120
          exact ih16 x79 y94 y106 y118 x120 (by omega) (by have q := smW_s (S := a1) (M := (fun c => gI h0 46 c - 5)) (i := x13.toInt) (i' := x120.toInt) (m := gI h0 46 x13.toInt - 5) (by omega) (by omega) (by omega) rfl; have p := px17; omega) (px18.o e95 (fun j j0 j1 => BSk.y (by omega) (by omega) (by omega) (by rw [show 3 * x13.toInt + 0 = x84.toInt by omega]; exact g93))) (px19.o e107 (fun j j0 j1 => BSk.y (by omega) (by omega) (by omega) (by rw [show 3 * x13.toInt + 1 = x99.toInt by omega]; exact g105))) (px20.o e119 (fun j j0 j1 => BSk.y (by omega) (by omega) (by omega) (by rw [show 3 * x13.toInt + 2 = x111.toInt by omega]; exact g117))) (by omega)
        · have t125 := ne_no c65
          refine ur_go rfl ?_
          refine ur_incV (fun z => [some (.inr (.inr (some 41))), some (.inl a1), some (.inl x9), some (.inr (.inl y10)), none, some (.inr (.inl y11)), none, some (.inr (.inl y12)), none, some (.inl z)]) rfl rfl (fun _ => rfl) (fun x126 e127 => ?_)
          have t128 := ti_add e127 (by omega) (by omega)
          refine ur_go rfl ?_
          have z129 := any_r x9
          have z130 := any_r x126
          exact ih16 x9 y10 y11 y12 x126 (by omega) (by have q := smW_k (S := a1) (M := (fun c => gI h0 46 c - 5)) (i := x13.toInt) (i' := x126.toInt) (by omega) (by omega) (by omega); have p := px17; omega) (px18.c (fun j j0 j1 => (BSk.n (by omega) (by omega)).symm)) (px19.c (fun j j0 j1 => (BSk.n (by omega) (by omega)).symm)) (px20.c (fun j j0 j1 => (BSk.n (by omega) (by omega)).symm)) (by omega)
  have z131 := any_r x5
  exact L14 _ x5 0 0 0 0 (by omega) (by rw [l_0]; show _ = _ - (0 : Int); omega) (BOr.z (fun j => BSk.z (by omega))) (BOr.z (fun j => BSk.z (by omega))) (BOr.z (fun j => BSk.z (by omega))) (Nat.lt_succ_self _)


end WSB2
