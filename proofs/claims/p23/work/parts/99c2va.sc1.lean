/-! JUDGE AND BEST: sc1 -/
section WSC1
set_option maxRecDepth 20000 in
set_option maxHeartbeats 4000000 in
theorem sz_X11_word {d kc ks : Nat} {h0 : aH} {Q : Option aV → aH → Prop} {L : Nat → List (List (Int × Int) × List (Int × Int))} (hO0 : OK h0) (a1 : Int32) (a2 : Int32) (a3 : Int32) (pre0 : NA h0) (pre1 : TXF h0 L) (hQ : ∀ r h', (∃ x : Int32, r = some (.inl x) ∧ (¬ ((0 ≤ a1.toInt ∧ a1.toInt / 10000 ≤ 8 ∧ a1.toInt / 100 % 100 ≤ 7 ∧ 0 ≤ a2.toInt ∧ a2.toInt ≤ 400) ∧ (a1.toInt % 100 = 99 ∨ (a1.toInt % 100 ≤ 19 ∧ gI h0 17 (a1.toInt % 100) ≠ -1)) ∧ ((a1.toInt / 100 % 100 = 1 ∨ a1.toInt / 100 % 100 = 6 → 0 ≤ a3.toInt ∧ a3.toInt ≤ 23) ∧ (a1.toInt / 100 % 100 = 2 ∨ a1.toInt / 100 % 100 = 7 → 0 ≤ a3.toInt ∧ a3.toInt ≤ 1) ∧ (a1.toInt / 100 % 100 = 3 → 0 ≤ a3.toInt ∧ a3.toInt < fO h0 15 1))) ∧ x.toInt = -1 ∧ fO h' 15 1 = fO h0 15 1 ∨ ((0 ≤ a1.toInt ∧ a1.toInt / 10000 ≤ 8 ∧ a1.toInt / 100 % 100 ≤ 7 ∧ 0 ≤ a2.toInt ∧ a2.toInt ≤ 400) ∧ (a1.toInt % 100 = 99 ∨ (a1.toInt % 100 ≤ 19 ∧ gI h0 17 (a1.toInt % 100) ≠ -1)) ∧ ((a1.toInt / 100 % 100 = 1 ∨ a1.toInt / 100 % 100 = 6 → 0 ≤ a3.toInt ∧ a3.toInt ≤ 23) ∧ (a1.toInt / 100 % 100 = 2 ∨ a1.toInt / 100 % 100 = 7 → 0 ≤ a3.toInt ∧ a3.toInt ≤ 1) ∧ (a1.toInt / 100 % 100 = 3 → 0 ≤ a3.toInt ∧ a3.toInt < fO h0 15 1))) ∧ 150 ≤ fO h0 15 1 ∧ x.toInt = -3 ∧ fO h' 15 1 = fO h0 15 1 ∨ ((0 ≤ a1.toInt ∧ a1.toInt / 10000 ≤ 8 ∧ a1.toInt / 100 % 100 ≤ 7 ∧ 0 ≤ a2.toInt ∧ a2.toInt ≤ 400) ∧ (a1.toInt % 100 = 99 ∨ (a1.toInt % 100 ≤ 19 ∧ gI h0 17 (a1.toInt % 100) ≠ -1)) ∧ ((a1.toInt / 100 % 100 = 1 ∨ a1.toInt / 100 % 100 = 6 → 0 ≤ a3.toInt ∧ a3.toInt ≤ 23) ∧ (a1.toInt / 100 % 100 = 2 ∨ a1.toInt / 100 % 100 = 7 → 0 ≤ a3.toInt ∧ a3.toInt ≤ 1) ∧ (a1.toInt / 100 % 100 = 3 → 0 ≤ a3.toInt ∧ a3.toInt < fO h0 15 1))) ∧ fO h0 15 1 < 150 ∧ x.toInt = fO h0 15 1 ∧ fO h' 15 1 = fO h0 15 1 + 1)) → OK h' → un [16, 45, 46, 2501, 9010, 22005, 22006, 22007, 22008, 22009, 22010, 22011, 22012] h0 h' → (nW h' ≤ nW h0 + 1) → (NA h') → (KWc h0 h') → (imG (fO h' 15 1 = fO h0 15 1 + 1) (∃ z re mo, NWz h' (fO h0 15 1) z (a1.toInt / 100 % 100) (a1.toInt / 10000) re a2.toInt (fO h0 15 2) (fO h0 15 3) (fO h0 15 4) mo ∧ ((a1.toInt % 100 = 99 ∧ re = -1) ∨ (a1.toInt % 100 ≠ 99 ∧ re = a1.toInt % 100)) ∧ (((a1.toInt / 100 % 100 = 0 ∨ a1.toInt / 100 % 100 = 4 ∨ a1.toInt / 100 % 100 = 5) ∧ mo = -1) ∨ (¬ (a1.toInt / 100 % 100 = 0 ∨ a1.toInt / 100 % 100 = 4 ∨ a1.toInt / 100 % 100 = 5) ∧ mo = a3.toInt)) ∧ (a1.toInt / 100 % 100 ≠ 3 → fA h' z 9 = some (.inr (.inr none))) ∧ (a1.toInt / 100 % 100 = 3 → ∃ zs r, wz h0 a3.toInt zs ∧ rtz h0 zs r ∧ fA h' z 9 = some (.inr (.inr (some r)))))) → (imG (fO h' 15 1 = fO h0 15 1 + 1) (∀ z, wz h' (fO h0 15 1) z → fO h' z 1 ≠ 3 → SPz h' z (L (fO h' z 2).toNat))) → (OW3 h0 h' h0.length) → (WPs h0 h') → Q r h') : uCall Mt (d + 7) 134 [(.inr (.inr (some 0))), (.inl a1), (.inl a2), (.inl a3)] h0 kc ks Q := by
  have l_m3 : ((-3) : Int32).toInt = -3 := by decide
  have l_m1 : ((-1) : Int32).toInt = -1 := by decide
  have l_0 : ((0) : Int32).toInt = 0 := by decide
  have l_8 : ((8) : Int32).toInt = 8 := by decide
  have l_99 : ((99) : Int32).toInt = 99 := by decide
  have l_100 : ((100) : Int32).toInt = 100 := by decide
  have l_150 : ((150) : Int32).toInt = 150 := by decide
  have l_400 : ((400) : Int32).toInt = 400 := by decide
  have l_10000 : ((10000) : Int32).toInt = 10000 := by decide
  refine uc_ink [some (.inr (.inr (some 0))), some (.inl a1), some (.inl a2), some (.inl a3), none, none, none, none] mt_134 (Nat.le_of_ble_eq_true rfl) rfl ?_
  obtain ⟨f2, f3, f4, f5, hc1, k6⟩ := ok_15 hO0
  have t7 := fO_of (k := 1) hc1 rfl
  have t8 := fO_of (k := 2) hc1 rfl
  have t9 := fO_of (k := 3) hc1 rfl
  have t10 := fO_of (k := 4) hc1 rfl
  refine ur_ldI rfl rfl ?_
  refine ur_push rfl ?_
  refine ur_divV rfl (by decide) (fun x11 e12 => ?_)
  have z13 := any_r a1
  have t14 : 0 ≤ a1.toInt → x11.toInt = a1.toInt / 10000 := fun q => ti_div e12 l_10000 (by decide) q
  refine ur_svIk [some (.inr (.inr (some 0))), some (.inl a1), some (.inl a2), some (.inl a3), some (.inl x11), none, none, none] rfl rfl ?_
  refine ur_ldI rfl rfl ?_
  refine ur_push rfl ?_
  refine ur_divV rfl (by decide) (fun x15 e16 => ?_)
  have t17 : 0 ≤ a1.toInt → x15.toInt = a1.toInt / 100 := fun q => ti_div e16 l_100 (by decide) q
  refine ur_push rfl ?_
  refine ur_divV rfl (by decide) (fun x18 e19 => ?_)
  have z20 := any_r x15
  have t21 : 0 ≤ x15.toInt → x18.toInt = x15.toInt % 100 := fun q => ti_rem e19 l_100 (by decide) q
  refine ur_svIk [some (.inr (.inr (some 0))), some (.inl a1), some (.inl a2), some (.inl a3), some (.inl x11), some (.inl x18), none, none] rfl rfl ?_
  refine ur_ldI rfl rfl ?_
  refine ur_push rfl ?_
  refine ur_divV rfl (by decide) (fun x22 e23 => ?_)
  have t24 : 0 ≤ a1.toInt → x22.toInt = a1.toInt % 100 := fun q => ti_rem e23 l_100 (by decide) q
  refine ur_svIk [some (.inr (.inr (some 0))), some (.inl a1), some (.inl a2), some (.inl a3), some (.inl x11), some (.inl x18), some (.inl x22), none] rfl rfl ?_
  refine ur_ldI rfl rfl ?_
  have t25 : 0 ≤ a1.toInt → gI h0 17 (a1.toInt % 100) = gI h0 17 x22.toInt := fun q => by rw [show a1.toInt % 100 = x22.toInt by omega]
  refine ur_if1 rfl (fun c26 => ?_) (fun c26 => ?_)
  · have t27 := lt_to c26
    refine ur_push rfl ?_
    exact ur_ret rfl rfl (hQ _ _ ⟨_, rfl, Or.inl ⟨fun q => by omega, by omega, by omega⟩⟩ hO0 un.rf (by omega) pre0 KWc.rf (fun q => by exfalso; omega) (fun q => by exfalso; omega) OW3.rf WPs.rf)
  · have t28 := lt_no c26
    replace t14 := t14 (by omega)
    replace t17 := t17 (by omega)
    replace t21 := t21 (by omega)
    replace t24 := t24 (by omega)
    replace t25 := t25 (by omega)
    have h29 : x11.toInt = a1.toInt / 10000 := by omega
    have h30 : x18.toInt = a1.toInt / 100 % 100 := by omega
    have h31 : x22.toInt = a1.toInt % 100 := by omega
    refine ur_ldI rfl rfl ?_
    refine ur_callv rfl rfl (Nat.le_of_ble_eq_true rfl) (Nat.le_of_ble_eq_true rfl) rfl (sp_isPpl _ _) ?_
    refine ur_eqB rfl (fun c34 => ?_) (fun c34 => ?_)
    · have t35 := wi_noL c34 l_0 l_8
      refine ur_push rfl ?_
      exact ur_ret rfl rfl (hQ _ _ ⟨_, rfl, Or.inl ⟨fun q => by omega, by omega, by omega⟩⟩ hO0 un.rf (by omega) pre0 KWc.rf (fun q => by exfalso; omega) (fun q => by exfalso; omega) OW3.rf WPs.rf)
    · have t36 := wi_toL c34 l_0 l_8
      refine ur_ldI rfl rfl ?_
      refine ur_push rfl ?_
      refine ur_if2 rfl (fun c37 => ?_) (fun c37 => ?_)
      · have t38 := le_to c37
        refine ur_push rfl ?_
        exact ur_ret rfl rfl (hQ _ _ ⟨_, rfl, Or.inl ⟨fun q => by omega, by omega, by omega⟩⟩ hO0 un.rf (by omega) pre0 KWc.rf (fun q => by exfalso; omega) (fun q => by exfalso; omega) OW3.rf WPs.rf)
      · have t39 := le_no c37
        refine ur_ldI rfl rfl ?_
        refine ur_push rfl ?_
        refine ur_push rfl ?_
        refine ur_callv rfl rfl (Nat.le_of_ble_eq_true rfl) (Nat.le_of_ble_eq_true rfl) rfl (sp_within _ _ _ _ _) ?_
        refine ur_neB rfl (fun c42 => ?_) (fun c42 => ?_)
        · have t43 := wi_toL c42 l_0 l_400
          refine ur_ldI rfl rfl ?_
          refine ur_push rfl ?_
          refine ur_if2 rfl (fun c44 => ?_) (fun c44 => ?_)
          · have t45 := eq_to c44
            refine ur_ldA rfl rfl ?_
            obtain ⟨hc46, k47⟩ := ok_0 hO0
            refine ur_get rfl hc46 rfl ?_
            refine ur_ldI rfl rfl ?_
            refine ur_ldI rfl rfl ?_
            refine ur_inl rfl (rcv_of hc1) (Nat.le_of_ble_eq_true rfl) (Nat.le_of_ble_eq_true rfl) (sd_X1_canBear hO0 _ _ pre0 (fun w48 hr49 => ?_))
            obtain ⟨b50, rfl, t51, t52⟩ := hr49
            show uRun _ (uCall Mt _) _ 85 (_, [(.inl (bi b50))], _, _, _)
            refine ur_neB rfl (fun c53 => ?_) (fun c53 => ?_)
            · have t54 := t51 c53
              clear t51 t52
              refine ur_ldA rfl rfl ?_
              refine ur_get rfl hc46 rfl ?_
              refine ur_get rfl hc1 rfl ?_
              refine ur_push rfl ?_
              refine ur_if2 rfl (fun c55 => ?_) (fun c55 => ?_)
              · have t56 := lt_to c55
                refine ur_new rfl (Nat.le_of_ble_eq_true rfl) ?_
                refine ur_dup rfl rfl ?_
                refine ur_ldA rfl rfl ?_
                refine ur_get rfl (hs_ap hc46) rfl ?_
                refine ur_get rfl (hs_ap hc1) rfl ?_
                refine ur_ldI rfl rfl ?_
                refine ur_ldI rfl rfl ?_
                refine ur_ldI rfl rfl ?_
                refine ur_push rfl ?_
                refine ur_if2 rfl (fun c58 => ?_) (fun c58 => ?_)
                · have t59 := ne_to c58
                  exfalso
                  omega
                · have t60 := ne_no c58
                  refine ur_push rfl ?_
                  refine ur_go rfl ?_
                  refine ur_ldI rfl rfl ?_
                  refine ur_inl rfl (rcv_of ap_0) (Nat.le_of_ble_eq_true rfl) (Nat.le_of_ble_eq_true rfl) (sd_newWord hO0 _ _ _ _ _ (by show (0 ≤ f2.toInt ∧ f2.toInt ≤ 149) ∧ (0 ≤ x18.toInt ∧ x18.toInt ≤ 7) ∧ (0 ≤ x11.toInt ∧ x11.toInt ≤ 8) ∧ -1 ≤ ((-1) : Int32).toInt ∧ ((-1) : Int32).toInt ≤ 19; omega) (fun w61 h64 hr62 hO64 hv64 k63 hn67 hx65 => ?_))
                  have hc66 : h64[h0.length]? = some (.inl (10, [.inl f2, .inl x18, .inl x11, .inl (-1), .inl a2, .inl 0, .inl 0, .inl 0, .inl (-1), .inr (.inr none), .inl 0, .inl 0, .inl 0])) := by rw [hx65]; exact ap_0
                  have hu64 : un [16, 45, 46, 2501, 9010, 22005, 22006, 22007, 22008, 22009, 22010, 22011, 22012] h0 h64 := hv64.mono (by decide)
                  subst hr62
                  show uRun _ (uCall Mt _) _ 138 (_, [(.inr (.inr (some h0.length)))], _, _, _)
                  refine ur_svAk [some (.inr (.inr (some 0))), some (.inl a1), some (.inl a2), some (.inl a3), some (.inl x11), some (.inl x18), some (.inl x22), some (.inr (.inr (some h0.length)))] rfl rfl ?_
                  refine ur_ldA rfl rfl ?_
                  refine ur_ldA rfl rfl ?_
                  refine ur_get rfl (hv64.ko (n := 8) hc46 rfl (wid_f (by decide)) (by decide)) rfl ?_
                  refine ur_get rfl (hv64.ko (n := 11) hc1 rfl (wid_f (by decide)) (by decide)) rfl ?_
                  have t68 := fO_of (k := 1) (hv64.ko (n := 11) hc1 rfl (wid_f (by decide)) (by decide)) rfl
                  have t69 := fO_of (k := 2) (hv64.ko (n := 11) hc1 rfl (wid_f (by decide)) (by decide)) rfl
                  have t70 := fO_of (k := 3) (hv64.ko (n := 11) hc1 rfl (wid_f (by decide)) (by decide)) rfl
                  have t71 := fO_of (k := 4) (hv64.ko (n := 11) hc1 rfl (wid_f (by decide)) (by decide)) rfl
                  refine ur_ldA rfl rfl ?_
                  refine ur_get rfl (hv64.ko (n := 8) hc46 rfl (wid_f (by decide)) (by decide)) rfl ?_
                  refine ur_get rfl (hv64.ko (n := 11) hc1 rfl (wid_f (by decide)) (by decide)) rfl ?_
                  refine ur_ldA rfl rfl ?_
                  refine ur_get rfl (hv64.ko (n := 8) hc46 rfl (wid_f (by decide)) (by decide)) rfl ?_
                  refine ur_get rfl (hv64.ko (n := 11) hc1 rfl (wid_f (by decide)) (by decide)) rfl ?_
                  obtain ⟨g88, f73, f74, f75, f76, f77, f78, f79, f80, f81, o85, f82, f83, f84, hc72, k86, k87⟩ := hO64.word k63.2
                  have t89 := fO_keep (a := 15) (ci := 1) (n := 11) (k := 1) hO0 hO64 hv64 (by decide) rfl (by decide) rfl (by decide)
                  have t90 := fO_keep (a := 15) (ci := 1) (n := 11) (k := 2) hO0 hO64 hv64 (by decide) rfl (by decide) rfl (by decide)
                  have t91 := fO_keep (a := 15) (ci := 1) (n := 11) (k := 3) hO0 hO64 hv64 (by decide) rfl (by decide) rfl (by decide)
                  have t92 := fO_keep (a := 15) (ci := 1) (n := 11) (k := 4) hO0 hO64 hv64 (by decide) rfl (by decide) rfl (by decide)
                  refine ur_inl rfl (rcv_of hc72) (Nat.le_of_ble_eq_true rfl) (Nat.le_of_ble_eq_true rfl) (st_X10_dateIt hO64 g88 k63.2 _ _ _ (fun w93 h98 hr94 hO98 hv98 hp95 hp96 hp97 => ?_))
                  have hu98 : un [16, 45, 46, 2501, 9010, 22005, 22006, 22007, 22008, 22009, 22010, 22011, 22012] h64 h98 := hv98.mono (by decide)
                  subst hr94
                  show uRun _ (uCall Mt _) _ 166 (_, [], _, _, _)
                  have t99 := fO_of (k := 1) (hv98.ko (n := 11) (hv64.ko (n := 11) hc1 rfl (wid_f (by decide)) (by decide)) rfl (wid_f (by decide)) (by decide)) rfl
                  have t100 := fO_of (k := 2) (hv98.ko (n := 11) (hv64.ko (n := 11) hc1 rfl (wid_f (by decide)) (by decide)) rfl (wid_f (by decide)) (by decide)) rfl
                  have t101 := fO_of (k := 3) (hv98.ko (n := 11) (hv64.ko (n := 11) hc1 rfl (wid_f (by decide)) (by decide)) rfl (wid_f (by decide)) (by decide)) rfl
                  have t102 := fO_of (k := 4) (hv98.ko (n := 11) (hv64.ko (n := 11) hc1 rfl (wid_f (by decide)) (by decide)) rfl (wid_f (by decide)) (by decide)) rfl
                  refine ur_ldA rfl rfl ?_
                  refine ur_get rfl (hv98.ko (n := 8) (hv64.ko (n := 8) hc46 rfl (wid_f (by decide)) (by decide)) rfl (wid_f (by decide)) (by decide)) rfl ?_
                  obtain ⟨f104, f105, hc103, k106⟩ := ok_41 hO98
                  have t107 := fO_keep (a := 15) (ci := 1) (n := 11) (k := 1) hO64 hO98 hv98 (by decide) rfl (by decide) rfl (by decide)
                  have t108 := fO_keep (a := 15) (ci := 1) (n := 11) (k := 2) hO64 hO98 hv98 (by decide) rfl (by decide) rfl (by decide)
                  have t109 := fO_keep (a := 15) (ci := 1) (n := 11) (k := 3) hO64 hO98 hv98 (by decide) rfl (by decide) rfl (by decide)
                  have t110 := fO_keep (a := 15) (ci := 1) (n := 11) (k := 4) hO64 hO98 hv98 (by decide) rfl (by decide) rfl (by decide)
                  refine ur_inl rfl (rcv_of hc103) (Nat.le_of_ble_eq_true rfl) (Nat.le_of_ble_eq_true rfl) (sz_X7_forgetWeights hO98  (fun w111 h114 hr112 hO114 hv114 hp113 => ?_))
                  have hu114 : un [16, 45, 46, 2501, 9010, 22005, 22006, 22007, 22008, 22009, 22010, 22011, 22012] h98 h114 := hv114.mono (by decide)
                  subst hr112
                  show uRun _ (uCall Mt _) _ 173 (_, [], _, _, _)
                  have t115 := fO_of (k := 1) (hv114.ko (n := 11) (hv98.ko (n := 11) (hv64.ko (n := 11) hc1 rfl (wid_f (by decide)) (by decide)) rfl (wid_f (by decide)) (by decide)) rfl (wid_f (by decide)) (by decide)) rfl
                  have t116 := fO_of (k := 2) (hv114.ko (n := 11) (hv98.ko (n := 11) (hv64.ko (n := 11) hc1 rfl (wid_f (by decide)) (by decide)) rfl (wid_f (by decide)) (by decide)) rfl (wid_f (by decide)) (by decide)) rfl
                  have t117 := fO_of (k := 3) (hv114.ko (n := 11) (hv98.ko (n := 11) (hv64.ko (n := 11) hc1 rfl (wid_f (by decide)) (by decide)) rfl (wid_f (by decide)) (by decide)) rfl (wid_f (by decide)) (by decide)) rfl
                  have t118 := fO_of (k := 4) (hv114.ko (n := 11) (hv98.ko (n := 11) (hv64.ko (n := 11) hc1 rfl (wid_f (by decide)) (by decide)) rfl (wid_f (by decide)) (by decide)) rfl (wid_f (by decide)) (by decide)) rfl
                  refine ur_ldA rfl rfl ?_
                  refine ur_get rfl (hv114.ko (n := 8) (hv98.ko (n := 8) (hv64.ko (n := 8) hc46 rfl (wid_f (by decide)) (by decide)) rfl (wid_f (by decide)) (by decide)) rfl (wid_f (by decide)) (by decide)) rfl ?_
                  refine ur_ldA rfl rfl ?_
                  refine ur_ldI rfl rfl ?_
                  have k119 : fO h114 h0.length 1 = (x18 : Int32).toInt := ((fO_kw hO98 hO114 hv114 g88 (hu98.tm k63.2 (by decide)) rfl (by decide)).trans ((fO_kw hO64 hO98 hv98 g88 k63.2 rfl (by decide)).trans (fO_of (k := 1) hc66 rfl)))
                  have t120 := fO_keep (a := 15) (ci := 1) (n := 11) (k := 1) hO98 hO114 hv114 (by decide) rfl (by decide) rfl (by decide)
                  have t121 := fO_keep (a := 15) (ci := 1) (n := 11) (k := 2) hO98 hO114 hv114 (by decide) rfl (by decide) rfl (by decide)
                  have t122 := fO_keep (a := 15) (ci := 1) (n := 11) (k := 3) hO98 hO114 hv114 (by decide) rfl (by decide) rfl (by decide)
                  have t123 := fO_keep (a := 15) (ci := 1) (n := 11) (k := 4) hO98 hO114 hv114 (by decide) rfl (by decide) rfl (by decide)
                  refine ur_inl rfl (rcv_of (hv114.ko (n := 11) (hv98.ko (n := 11) (hv64.ko (n := 11) hc1 rfl (wid_f (by decide)) (by decide)) rfl (wid_f (by decide)) (by decide)) rfl (wid_f (by decide)) (by decide))) (Nat.le_of_ble_eq_true rfl) (Nat.le_of_ble_eq_true rfl) (st_X1_addWord hO114 g88 (hu114.tm (hu98.tm k63.2 (by decide)) (by decide)) _ (((pre0.un hO0 hO64 hv64 (by decide) (by decide)).un hO64 hO98 hv98 (by decide) (by decide)).un hO98 hO114 hv114 (by decide) (by decide)) (by omega) (by rw [k119]; omega) (((pre1.un hO0 hO64 hv64 (by decide)).un hO64 hO98 hv98 (by decide)).un hO98 hO114 hv114 (by decide)) (fun w124 h134 hr125 hO134 hv134 hp126 hp127 hp128 hp129 hp130 hp131 hp132 hp133 => ?_))
                  have hu134 : un [16, 45, 46, 2501, 9010, 22005, 22006, 22007, 22008, 22009, 22010, 22011, 22012] h114 h134 := hv134.mono (by decide)
                  obtain ⟨x135, rfl, t136⟩ := hr125
                  show uRun _ (uCall Mt _) _ 183 (_, [(.inl x135)], _, _, _)
                  obtain ⟨f138, f139, f140, f141, hc137, k142⟩ := ok_15 hO134
                  have t143 := fO_of (k := 1) hc137 rfl
                  have t144 := fO_of (k := 2) hc137 rfl
                  have t145 := fO_of (k := 3) hc137 rfl
                  have t146 := fO_of (k := 4) hc137 rfl
                  have t147 := fO_keep (a := 15) (ci := 1) (n := 11) (k := 2) hO114 hO134 hv134 (by decide) rfl (by decide) rfl (by decide)
                  have t148 := fO_keep (a := 15) (ci := 1) (n := 11) (k := 3) hO114 hO134 hv134 (by decide) rfl (by decide) rfl (by decide)
                  have t149 := fO_keep (a := 15) (ci := 1) (n := 11) (k := 4) hO114 hO134 hv134 (by decide) rfl (by decide) rfl (by decide)
                  have t150 := hv98.nW (by decide)
                  have t151 := hv114.nW (by decide)
                  have t152 := hv134.nW (by decide)
                  have w153 : arR h134 16 = (arR h0 16).set (fO h0 15 1).toNat (some h0.length) := by rw [hp129, show arR h114 16 = arR h0 16 from ((arR_u hO98 hv114 (by decide)).trans ((arR_u hO64 hv98 (by decide)).trans (arR_u hO0 hv64 (by decide)))), show fO h114 15 1 = fO h0 15 1 by omega]
                  have w154 : OWK h0 h134 (h0.length) := ((((OWK.un hO0 hv64 (by decide)).tr hp95).tr (OWK.un hO98 hv114 (by decide))).tr hp128)
                  have w155 := KWc.push hO0 w154 rfl w153 (by omega)
                  have w156 : fO h134 (h0.length) 0 = (f2 : Int32).toInt := fO_fA (((fA_un hO114 hv134 g88 (hu114.tm (hu98.tm k63.2 (by decide)) (by decide)) (by decide) (by decide)).trans ((fA_un hO98 hv114 g88 (hu98.tm k63.2 (by decide)) (by decide) (by decide)).trans (fA_un hO64 hv98 g88 k63.2 (by decide) (by decide)))).trans (fA_of (k := 0) hc66))
                  have w157 : fO h134 (h0.length) 1 = (x18 : Int32).toInt := fO_fA (((fA_un hO114 hv134 g88 (hu114.tm (hu98.tm k63.2 (by decide)) (by decide)) (by decide) (by decide)).trans ((fA_un hO98 hv114 g88 (hu98.tm k63.2 (by decide)) (by decide) (by decide)).trans (fA_un hO64 hv98 g88 k63.2 (by decide) (by decide)))).trans (fA_of (k := 1) hc66))
                  have w158 : fO h134 (h0.length) 2 = (x11 : Int32).toInt := fO_fA (((fA_un hO114 hv134 g88 (hu114.tm (hu98.tm k63.2 (by decide)) (by decide)) (by decide) (by decide)).trans ((fA_un hO98 hv114 g88 (hu98.tm k63.2 (by decide)) (by decide) (by decide)).trans (fA_un hO64 hv98 g88 k63.2 (by decide) (by decide)))).trans (fA_of (k := 2) hc66))
                  have w159 : fO h134 (h0.length) 3 = ((-1) : Int32).toInt := fO_fA (((fA_un hO114 hv134 g88 (hu114.tm (hu98.tm k63.2 (by decide)) (by decide)) (by decide) (by decide)).trans ((fA_un hO98 hv114 g88 (hu98.tm k63.2 (by decide)) (by decide) (by decide)).trans (fA_un hO64 hv98 g88 k63.2 (by decide) (by decide)))).trans (fA_of (k := 3) hc66))
                  have w160 : fO h134 (h0.length) 4 = (a2 : Int32).toInt := fO_fA (((fA_un hO114 hv134 g88 (hu114.tm (hu98.tm k63.2 (by decide)) (by decide)) (by decide) (by decide)).trans ((fA_un hO98 hv114 g88 (hu98.tm k63.2 (by decide)) (by decide) (by decide)).trans (fA_un hO64 hv98 g88 k63.2 (by decide) (by decide)))).trans (fA_of (k := 4) hc66))
                  have w161 : fO h134 (h0.length) 5 = (f3 : Int32).toInt := fO_fA (((fA_un hO114 hv134 g88 (hu114.tm (hu98.tm k63.2 (by decide)) (by decide)) (by decide) (by decide)).trans (fA_un hO98 hv114 g88 (hu98.tm k63.2 (by decide)) (by decide) (by decide))).trans hp96.1)
                  have w162 : fO h134 (h0.length) 6 = (f4 : Int32).toInt := fO_fA (((fA_un hO114 hv134 g88 (hu114.tm (hu98.tm k63.2 (by decide)) (by decide)) (by decide) (by decide)).trans (fA_un hO98 hv114 g88 (hu98.tm k63.2 (by decide)) (by decide) (by decide))).trans hp96.2.1)
                  have w163 : fO h134 (h0.length) 7 = (f5 : Int32).toInt := fO_fA (((fA_un hO114 hv134 g88 (hu114.tm (hu98.tm k63.2 (by decide)) (by decide)) (by decide) (by decide)).trans (fA_un hO98 hv114 g88 (hu98.tm k63.2 (by decide)) (by decide) (by decide))).trans hp96.2.2)
                  have w166 := k119.trans h30
                  have w164 := mo_G hp130 w166 (((fA_un hO98 hv114 g88 (hu98.tm k63.2 (by decide)) (by decide) (by decide)).trans (fA_un hO64 hv98 g88 k63.2 (by decide) (by decide))).trans (fA_of (k := 8) hc66)) (by decide)
                  have w165 := cr_G (h0 := h0) hp131 w166 (((fA_un hO98 hv114 g88 (hu98.tm k63.2 (by decide)) (by decide) (by decide)).trans (fA_un hO64 hv98 g88 k63.2 (by decide) (by decide))).trans (fA_of (k := 9) hc66)) ((arR_u hO98 hv114 (by decide)).trans ((arR_u hO64 hv98 (by decide)).trans (arR_u hO0 hv64 (by decide)))) (((OWK.un hO0 hv64 (by decide)).tr hp95).tr (OWK.un hO98 hv114 (by decide))) hO0 rfl
                  exact ur_ret rfl rfl (hQ _ _ ⟨_, rfl, Or.inr (Or.inr ⟨⟨⟨by omega, by omega, by omega, by omega, by omega⟩, by omega, fun q => by omega, fun q => by omega, fun q => by omega⟩, by omega, by omega, by omega⟩)⟩ hO134 (hu64.tr (hu98.tr (hu114.tr hu134))) (by omega) hp127 w155.1 (fun _ => ⟨h0.length, _, _, ⟨w155.2, by omega, w157.trans h30, w158.trans h29, w159, w160, by omega, by omega, by omega, rfl⟩, Or.inl ⟨by omega, by decide⟩, w164, w165.1, w165.2⟩) (fun _ z w k => by obtain rfl := wz_u w155.2 w; have x := hp132 (by rw [← fO_eA (show fA h134 (h0.length) 1 = fA h114 (h0.length) 1 from (fA_un hO114 hv134 g88 (hu114.tm (hu98.tm k63.2 (by decide)) (by decide)) (by decide) (by decide)))]; exact k); rw [← fO_eA (show fA h134 (h0.length) 2 = fA h114 (h0.length) 2 from (fA_un hO114 hv134 g88 (hu114.tm (hu98.tm k63.2 (by decide)) (by decide)) (by decide) (by decide)))] at x; exact x) ((((OW3.un hO0 hv64 (by decide)).tr hp97).tr (OW3.un hO98 hv114 (by decide))).tr hp133) (WPs.z (hp113.un hO114 hv134 (by decide))))
              · have t167 := lt_no c55
                refine ur_push rfl ?_
                exact ur_ret rfl rfl (hQ _ _ ⟨_, rfl, Or.inr (Or.inl ⟨⟨⟨by omega, by omega, by omega, by omega, by omega⟩, by omega, fun q => by omega, fun q => by omega, fun q => by omega⟩, by omega, by omega, by omega⟩)⟩ hO0 un.rf (by omega) pre0 KWc.rf (fun q => by exfalso; omega) (fun q => by exfalso; omega) OW3.rf WPs.rf)
            · have t168 := t52 c53
              clear t51 t52
              refine ur_push rfl ?_
              exact ur_ret rfl rfl (hQ _ _ ⟨_, rfl, Or.inl ⟨fun q => by omega, by omega, by omega⟩⟩ hO0 un.rf (by omega) pre0 KWc.rf (fun q => by exfalso; omega) (fun q => by exfalso; omega) OW3.rf WPs.rf)
          · have t169 := eq_no c44
            refine ur_ldA rfl rfl ?_
            obtain ⟨hc170, k171⟩ := ok_0 hO0
            refine ur_get rfl hc170 rfl ?_
            refine ur_ldI rfl rfl ?_
            refine ur_inl rfl (rcv_of hc1) (Nat.le_of_ble_eq_true rfl) (Nat.le_of_ble_eq_true rfl) (sd_X1_isToldReign hO0 _ (fun w172 hr173 => ?_))
            obtain ⟨b174, rfl, t175, t176⟩ := hr173
            show uRun _ (uCall Mt _) _ 70 (_, [(.inl (bi b174))], _, _, _)
            refine ur_neB rfl (fun c177 => ?_) (fun c177 => ?_)
            · have t178 := t175 c177
              clear t175 t176
              refine ur_ldA rfl rfl ?_
              refine ur_get rfl hc170 rfl ?_
              refine ur_ldI rfl rfl ?_
              refine ur_ldI rfl rfl ?_
              refine ur_inl rfl (rcv_of hc1) (Nat.le_of_ble_eq_true rfl) (Nat.le_of_ble_eq_true rfl) (sd_X1_canBear hO0 _ _ pre0 (fun w179 hr180 => ?_))
              obtain ⟨b181, rfl, t182, t183⟩ := hr180
              show uRun _ (uCall Mt _) _ 85 (_, [(.inl (bi b181))], _, _, _)
              refine ur_neB rfl (fun c184 => ?_) (fun c184 => ?_)
              · have t185 := t182 c184
                clear t182 t183
                refine ur_ldA rfl rfl ?_
                refine ur_get rfl hc170 rfl ?_
                refine ur_get rfl hc1 rfl ?_
                refine ur_push rfl ?_
                refine ur_if2 rfl (fun c186 => ?_) (fun c186 => ?_)
                · have t187 := lt_to c186
                  refine ur_new rfl (Nat.le_of_ble_eq_true rfl) ?_
                  refine ur_dup rfl rfl ?_
                  refine ur_ldA rfl rfl ?_
                  refine ur_get rfl (hs_ap hc170) rfl ?_
                  refine ur_get rfl (hs_ap hc1) rfl ?_
                  refine ur_ldI rfl rfl ?_
                  refine ur_ldI rfl rfl ?_
                  refine ur_ldI rfl rfl ?_
                  refine ur_push rfl ?_
                  refine ur_if2 rfl (fun c189 => ?_) (fun c189 => ?_)
                  · have t190 := ne_to c189
                    refine ur_ldI rfl rfl ?_
                    refine ur_ldI rfl rfl ?_
                    refine ur_inl rfl (rcv_of ap_0) (Nat.le_of_ble_eq_true rfl) (Nat.le_of_ble_eq_true rfl) (sd_newWord hO0 _ _ _ _ _ (by show (0 ≤ f2.toInt ∧ f2.toInt ≤ 149) ∧ (0 ≤ x18.toInt ∧ x18.toInt ≤ 7) ∧ (0 ≤ x11.toInt ∧ x11.toInt ≤ 8) ∧ -1 ≤ x22.toInt ∧ x22.toInt ≤ 19; omega) (fun w191 h194 hr192 hO194 hv194 k193 hn197 hx195 => ?_))
                    have hc196 : h194[h0.length]? = some (.inl (10, [.inl f2, .inl x18, .inl x11, .inl x22, .inl a2, .inl 0, .inl 0, .inl 0, .inl (-1), .inr (.inr none), .inl 0, .inl 0, .inl 0])) := by rw [hx195]; exact ap_0
                    have hu194 : un [16, 45, 46, 2501, 9010, 22005, 22006, 22007, 22008, 22009, 22010, 22011, 22012] h0 h194 := hv194.mono (by decide)
                    subst hr192
                    show uRun _ (uCall Mt _) _ 138 (_, [(.inr (.inr (some h0.length)))], _, _, _)
                    refine ur_svAk [some (.inr (.inr (some 0))), some (.inl a1), some (.inl a2), some (.inl a3), some (.inl x11), some (.inl x18), some (.inl x22), some (.inr (.inr (some h0.length)))] rfl rfl ?_
                    refine ur_ldA rfl rfl ?_
                    refine ur_ldA rfl rfl ?_
                    refine ur_get rfl (hv194.ko (n := 8) hc170 rfl (wid_f (by decide)) (by decide)) rfl ?_
                    refine ur_get rfl (hv194.ko (n := 11) hc1 rfl (wid_f (by decide)) (by decide)) rfl ?_
                    have t198 := fO_of (k := 1) (hv194.ko (n := 11) hc1 rfl (wid_f (by decide)) (by decide)) rfl
                    have t199 := fO_of (k := 2) (hv194.ko (n := 11) hc1 rfl (wid_f (by decide)) (by decide)) rfl
                    have t200 := fO_of (k := 3) (hv194.ko (n := 11) hc1 rfl (wid_f (by decide)) (by decide)) rfl
                    have t201 := fO_of (k := 4) (hv194.ko (n := 11) hc1 rfl (wid_f (by decide)) (by decide)) rfl
                    refine ur_ldA rfl rfl ?_
                    refine ur_get rfl (hv194.ko (n := 8) hc170 rfl (wid_f (by decide)) (by decide)) rfl ?_
                    refine ur_get rfl (hv194.ko (n := 11) hc1 rfl (wid_f (by decide)) (by decide)) rfl ?_
                    refine ur_ldA rfl rfl ?_
                    refine ur_get rfl (hv194.ko (n := 8) hc170 rfl (wid_f (by decide)) (by decide)) rfl ?_
                    refine ur_get rfl (hv194.ko (n := 11) hc1 rfl (wid_f (by decide)) (by decide)) rfl ?_
                    obtain ⟨g218, f203, f204, f205, f206, f207, f208, f209, f210, f211, o215, f212, f213, f214, hc202, k216, k217⟩ := hO194.word k193.2
                    have t219 := fO_keep (a := 15) (ci := 1) (n := 11) (k := 1) hO0 hO194 hv194 (by decide) rfl (by decide) rfl (by decide)
                    have t220 := fO_keep (a := 15) (ci := 1) (n := 11) (k := 2) hO0 hO194 hv194 (by decide) rfl (by decide) rfl (by decide)
                    have t221 := fO_keep (a := 15) (ci := 1) (n := 11) (k := 3) hO0 hO194 hv194 (by decide) rfl (by decide) rfl (by decide)
                    have t222 := fO_keep (a := 15) (ci := 1) (n := 11) (k := 4) hO0 hO194 hv194 (by decide) rfl (by decide) rfl (by decide)
                    refine ur_inl rfl (rcv_of hc202) (Nat.le_of_ble_eq_true rfl) (Nat.le_of_ble_eq_true rfl) (st_X10_dateIt hO194 g218 k193.2 _ _ _ (fun w223 h228 hr224 hO228 hv228 hp225 hp226 hp227 => ?_))
                    have hu228 : un [16, 45, 46, 2501, 9010, 22005, 22006, 22007, 22008, 22009, 22010, 22011, 22012] h194 h228 := hv228.mono (by decide)
                    subst hr224
                    show uRun _ (uCall Mt _) _ 166 (_, [], _, _, _)
                    have t229 := fO_of (k := 1) (hv228.ko (n := 11) (hv194.ko (n := 11) hc1 rfl (wid_f (by decide)) (by decide)) rfl (wid_f (by decide)) (by decide)) rfl
                    have t230 := fO_of (k := 2) (hv228.ko (n := 11) (hv194.ko (n := 11) hc1 rfl (wid_f (by decide)) (by decide)) rfl (wid_f (by decide)) (by decide)) rfl
                    have t231 := fO_of (k := 3) (hv228.ko (n := 11) (hv194.ko (n := 11) hc1 rfl (wid_f (by decide)) (by decide)) rfl (wid_f (by decide)) (by decide)) rfl
                    have t232 := fO_of (k := 4) (hv228.ko (n := 11) (hv194.ko (n := 11) hc1 rfl (wid_f (by decide)) (by decide)) rfl (wid_f (by decide)) (by decide)) rfl
                    refine ur_ldA rfl rfl ?_
                    refine ur_get rfl (hv228.ko (n := 8) (hv194.ko (n := 8) hc170 rfl (wid_f (by decide)) (by decide)) rfl (wid_f (by decide)) (by decide)) rfl ?_
                    obtain ⟨f234, f235, hc233, k236⟩ := ok_41 hO228
                    have t237 := fO_keep (a := 15) (ci := 1) (n := 11) (k := 1) hO194 hO228 hv228 (by decide) rfl (by decide) rfl (by decide)
                    have t238 := fO_keep (a := 15) (ci := 1) (n := 11) (k := 2) hO194 hO228 hv228 (by decide) rfl (by decide) rfl (by decide)
                    have t239 := fO_keep (a := 15) (ci := 1) (n := 11) (k := 3) hO194 hO228 hv228 (by decide) rfl (by decide) rfl (by decide)
                    have t240 := fO_keep (a := 15) (ci := 1) (n := 11) (k := 4) hO194 hO228 hv228 (by decide) rfl (by decide) rfl (by decide)
                    refine ur_inl rfl (rcv_of hc233) (Nat.le_of_ble_eq_true rfl) (Nat.le_of_ble_eq_true rfl) (sz_X7_forgetWeights hO228  (fun w241 h244 hr242 hO244 hv244 hp243 => ?_))
                    have hu244 : un [16, 45, 46, 2501, 9010, 22005, 22006, 22007, 22008, 22009, 22010, 22011, 22012] h228 h244 := hv244.mono (by decide)
                    subst hr242
                    show uRun _ (uCall Mt _) _ 173 (_, [], _, _, _)
                    have t245 := fO_of (k := 1) (hv244.ko (n := 11) (hv228.ko (n := 11) (hv194.ko (n := 11) hc1 rfl (wid_f (by decide)) (by decide)) rfl (wid_f (by decide)) (by decide)) rfl (wid_f (by decide)) (by decide)) rfl
                    have t246 := fO_of (k := 2) (hv244.ko (n := 11) (hv228.ko (n := 11) (hv194.ko (n := 11) hc1 rfl (wid_f (by decide)) (by decide)) rfl (wid_f (by decide)) (by decide)) rfl (wid_f (by decide)) (by decide)) rfl
                    have t247 := fO_of (k := 3) (hv244.ko (n := 11) (hv228.ko (n := 11) (hv194.ko (n := 11) hc1 rfl (wid_f (by decide)) (by decide)) rfl (wid_f (by decide)) (by decide)) rfl (wid_f (by decide)) (by decide)) rfl
                    have t248 := fO_of (k := 4) (hv244.ko (n := 11) (hv228.ko (n := 11) (hv194.ko (n := 11) hc1 rfl (wid_f (by decide)) (by decide)) rfl (wid_f (by decide)) (by decide)) rfl (wid_f (by decide)) (by decide)) rfl
                    refine ur_ldA rfl rfl ?_
                    refine ur_get rfl (hv244.ko (n := 8) (hv228.ko (n := 8) (hv194.ko (n := 8) hc170 rfl (wid_f (by decide)) (by decide)) rfl (wid_f (by decide)) (by decide)) rfl (wid_f (by decide)) (by decide)) rfl ?_
                    refine ur_ldA rfl rfl ?_
                    refine ur_ldI rfl rfl ?_
                    have k249 : fO h244 h0.length 1 = (x18 : Int32).toInt := ((fO_kw hO228 hO244 hv244 g218 (hu228.tm k193.2 (by decide)) rfl (by decide)).trans ((fO_kw hO194 hO228 hv228 g218 k193.2 rfl (by decide)).trans (fO_of (k := 1) hc196 rfl)))
                    have t250 := fO_keep (a := 15) (ci := 1) (n := 11) (k := 1) hO228 hO244 hv244 (by decide) rfl (by decide) rfl (by decide)
                    have t251 := fO_keep (a := 15) (ci := 1) (n := 11) (k := 2) hO228 hO244 hv244 (by decide) rfl (by decide) rfl (by decide)
                    have t252 := fO_keep (a := 15) (ci := 1) (n := 11) (k := 3) hO228 hO244 hv244 (by decide) rfl (by decide) rfl (by decide)
                    have t253 := fO_keep (a := 15) (ci := 1) (n := 11) (k := 4) hO228 hO244 hv244 (by decide) rfl (by decide) rfl (by decide)
                    refine ur_inl rfl (rcv_of (hv244.ko (n := 11) (hv228.ko (n := 11) (hv194.ko (n := 11) hc1 rfl (wid_f (by decide)) (by decide)) rfl (wid_f (by decide)) (by decide)) rfl (wid_f (by decide)) (by decide))) (Nat.le_of_ble_eq_true rfl) (Nat.le_of_ble_eq_true rfl) (st_X1_addWord hO244 g218 (hu244.tm (hu228.tm k193.2 (by decide)) (by decide)) _ (((pre0.un hO0 hO194 hv194 (by decide) (by decide)).un hO194 hO228 hv228 (by decide) (by decide)).un hO228 hO244 hv244 (by decide) (by decide)) (by omega) (by rw [k249]; omega) (((pre1.un hO0 hO194 hv194 (by decide)).un hO194 hO228 hv228 (by decide)).un hO228 hO244 hv244 (by decide)) (fun w254 h264 hr255 hO264 hv264 hp256 hp257 hp258 hp259 hp260 hp261 hp262 hp263 => ?_))
                    have hu264 : un [16, 45, 46, 2501, 9010, 22005, 22006, 22007, 22008, 22009, 22010, 22011, 22012] h244 h264 := hv264.mono (by decide)
                    obtain ⟨x265, rfl, t266⟩ := hr255
                    show uRun _ (uCall Mt _) _ 183 (_, [(.inl x265)], _, _, _)
                    obtain ⟨f268, f269, f270, f271, hc267, k272⟩ := ok_15 hO264
                    have t273 := fO_of (k := 1) hc267 rfl
                    have t274 := fO_of (k := 2) hc267 rfl
                    have t275 := fO_of (k := 3) hc267 rfl
                    have t276 := fO_of (k := 4) hc267 rfl
                    have t277 := fO_keep (a := 15) (ci := 1) (n := 11) (k := 2) hO244 hO264 hv264 (by decide) rfl (by decide) rfl (by decide)
                    have t278 := fO_keep (a := 15) (ci := 1) (n := 11) (k := 3) hO244 hO264 hv264 (by decide) rfl (by decide) rfl (by decide)
                    have t279 := fO_keep (a := 15) (ci := 1) (n := 11) (k := 4) hO244 hO264 hv264 (by decide) rfl (by decide) rfl (by decide)
                    have t280 := hv228.nW (by decide)
                    have t281 := hv244.nW (by decide)
                    have t282 := hv264.nW (by decide)
                    have w283 : arR h264 16 = (arR h0 16).set (fO h0 15 1).toNat (some h0.length) := by rw [hp259, show arR h244 16 = arR h0 16 from ((arR_u hO228 hv244 (by decide)).trans ((arR_u hO194 hv228 (by decide)).trans (arR_u hO0 hv194 (by decide)))), show fO h244 15 1 = fO h0 15 1 by omega]
                    have w284 : OWK h0 h264 (h0.length) := ((((OWK.un hO0 hv194 (by decide)).tr hp225).tr (OWK.un hO228 hv244 (by decide))).tr hp258)
                    have w285 := KWc.push hO0 w284 rfl w283 (by omega)
                    have w286 : fO h264 (h0.length) 0 = (f2 : Int32).toInt := fO_fA (((fA_un hO244 hv264 g218 (hu244.tm (hu228.tm k193.2 (by decide)) (by decide)) (by decide) (by decide)).trans ((fA_un hO228 hv244 g218 (hu228.tm k193.2 (by decide)) (by decide) (by decide)).trans (fA_un hO194 hv228 g218 k193.2 (by decide) (by decide)))).trans (fA_of (k := 0) hc196))
                    have w287 : fO h264 (h0.length) 1 = (x18 : Int32).toInt := fO_fA (((fA_un hO244 hv264 g218 (hu244.tm (hu228.tm k193.2 (by decide)) (by decide)) (by decide) (by decide)).trans ((fA_un hO228 hv244 g218 (hu228.tm k193.2 (by decide)) (by decide) (by decide)).trans (fA_un hO194 hv228 g218 k193.2 (by decide) (by decide)))).trans (fA_of (k := 1) hc196))
                    have w288 : fO h264 (h0.length) 2 = (x11 : Int32).toInt := fO_fA (((fA_un hO244 hv264 g218 (hu244.tm (hu228.tm k193.2 (by decide)) (by decide)) (by decide) (by decide)).trans ((fA_un hO228 hv244 g218 (hu228.tm k193.2 (by decide)) (by decide) (by decide)).trans (fA_un hO194 hv228 g218 k193.2 (by decide) (by decide)))).trans (fA_of (k := 2) hc196))
                    have w289 : fO h264 (h0.length) 3 = (x22 : Int32).toInt := fO_fA (((fA_un hO244 hv264 g218 (hu244.tm (hu228.tm k193.2 (by decide)) (by decide)) (by decide) (by decide)).trans ((fA_un hO228 hv244 g218 (hu228.tm k193.2 (by decide)) (by decide) (by decide)).trans (fA_un hO194 hv228 g218 k193.2 (by decide) (by decide)))).trans (fA_of (k := 3) hc196))
                    have w290 : fO h264 (h0.length) 4 = (a2 : Int32).toInt := fO_fA (((fA_un hO244 hv264 g218 (hu244.tm (hu228.tm k193.2 (by decide)) (by decide)) (by decide) (by decide)).trans ((fA_un hO228 hv244 g218 (hu228.tm k193.2 (by decide)) (by decide) (by decide)).trans (fA_un hO194 hv228 g218 k193.2 (by decide) (by decide)))).trans (fA_of (k := 4) hc196))
                    have w291 : fO h264 (h0.length) 5 = (f3 : Int32).toInt := fO_fA (((fA_un hO244 hv264 g218 (hu244.tm (hu228.tm k193.2 (by decide)) (by decide)) (by decide) (by decide)).trans (fA_un hO228 hv244 g218 (hu228.tm k193.2 (by decide)) (by decide) (by decide))).trans hp226.1)
                    have w292 : fO h264 (h0.length) 6 = (f4 : Int32).toInt := fO_fA (((fA_un hO244 hv264 g218 (hu244.tm (hu228.tm k193.2 (by decide)) (by decide)) (by decide) (by decide)).trans (fA_un hO228 hv244 g218 (hu228.tm k193.2 (by decide)) (by decide) (by decide))).trans hp226.2.1)
                    have w293 : fO h264 (h0.length) 7 = (f5 : Int32).toInt := fO_fA (((fA_un hO244 hv264 g218 (hu244.tm (hu228.tm k193.2 (by decide)) (by decide)) (by decide) (by decide)).trans (fA_un hO228 hv244 g218 (hu228.tm k193.2 (by decide)) (by decide) (by decide))).trans hp226.2.2)
                    have w296 := k249.trans h30
                    have w294 := mo_G hp260 w296 (((fA_un hO228 hv244 g218 (hu228.tm k193.2 (by decide)) (by decide) (by decide)).trans (fA_un hO194 hv228 g218 k193.2 (by decide) (by decide))).trans (fA_of (k := 8) hc196)) (by decide)
                    have w295 := cr_G (h0 := h0) hp261 w296 (((fA_un hO228 hv244 g218 (hu228.tm k193.2 (by decide)) (by decide) (by decide)).trans (fA_un hO194 hv228 g218 k193.2 (by decide) (by decide))).trans (fA_of (k := 9) hc196)) ((arR_u hO228 hv244 (by decide)).trans ((arR_u hO194 hv228 (by decide)).trans (arR_u hO0 hv194 (by decide)))) (((OWK.un hO0 hv194 (by decide)).tr hp225).tr (OWK.un hO228 hv244 (by decide))) hO0 rfl
                    exact ur_ret rfl rfl (hQ _ _ ⟨_, rfl, Or.inr (Or.inr ⟨⟨⟨by omega, by omega, by omega, by omega, by omega⟩, by omega, fun q => by omega, fun q => by omega, fun q => by omega⟩, by omega, by omega, by omega⟩)⟩ hO264 (hu194.tr (hu228.tr (hu244.tr hu264))) (by omega) hp257 w285.1 (fun _ => ⟨h0.length, _, _, ⟨w285.2, by omega, w287.trans h30, w288.trans h29, w289, w290, by omega, by omega, by omega, rfl⟩, Or.inr ⟨by omega, h31⟩, w294, w295.1, w295.2⟩) (fun _ z w k => by obtain rfl := wz_u w285.2 w; have x := hp262 (by rw [← fO_eA (show fA h264 (h0.length) 1 = fA h244 (h0.length) 1 from (fA_un hO244 hv264 g218 (hu244.tm (hu228.tm k193.2 (by decide)) (by decide)) (by decide) (by decide)))]; exact k); rw [← fO_eA (show fA h264 (h0.length) 2 = fA h244 (h0.length) 2 from (fA_un hO244 hv264 g218 (hu244.tm (hu228.tm k193.2 (by decide)) (by decide)) (by decide) (by decide)))] at x; exact x) ((((OW3.un hO0 hv194 (by decide)).tr hp227).tr (OW3.un hO228 hv244 (by decide))).tr hp263) (WPs.z (hp243.un hO244 hv264 (by decide))))
                  · have t297 := ne_no c189
                    exfalso
                    omega
                · have t298 := lt_no c186
                  refine ur_push rfl ?_
                  exact ur_ret rfl rfl (hQ _ _ ⟨_, rfl, Or.inr (Or.inl ⟨⟨⟨by omega, by omega, by omega, by omega, by omega⟩, by omega, fun q => by omega, fun q => by omega, fun q => by omega⟩, by omega, by omega, by omega⟩)⟩ hO0 un.rf (by omega) pre0 KWc.rf (fun q => by exfalso; omega) (fun q => by exfalso; omega) OW3.rf WPs.rf)
              · have t299 := t183 c184
                clear t182 t183
                refine ur_push rfl ?_
                exact ur_ret rfl rfl (hQ _ _ ⟨_, rfl, Or.inl ⟨fun q => by omega, by omega, by omega⟩⟩ hO0 un.rf (by omega) pre0 KWc.rf (fun q => by exfalso; omega) (fun q => by exfalso; omega) OW3.rf WPs.rf)
            · have t300 := t176 c177
              clear t175 t176
              refine ur_push rfl ?_
              exact ur_ret rfl rfl (hQ _ _ ⟨_, rfl, Or.inl ⟨fun q => by omega, by omega, by omega⟩⟩ hO0 un.rf (by omega) pre0 KWc.rf (fun q => by exfalso; omega) (fun q => by exfalso; omega) OW3.rf WPs.rf)
        · have t301 := wi_noL c42 l_0 l_400
          refine ur_push rfl ?_
          exact ur_ret rfl rfl (hQ _ _ ⟨_, rfl, Or.inl ⟨fun q => by omega, by omega, by omega⟩⟩ hO0 un.rf (by omega) pre0 KWc.rf (fun q => by exfalso; omega) (fun q => by exfalso; omega) OW3.rf WPs.rf)


end WSC1
