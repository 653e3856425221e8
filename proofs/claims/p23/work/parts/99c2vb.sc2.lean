/-! JUDGE AND BEST: sc2 -/
section WSC2
set_option maxRecDepth 20000 in
set_option maxHeartbeats 4000000 in
theorem sz_X11_addWordFromRow {d kc ks : Nat} {h0 : aH} {Q : Option aV → aH → Prop} {L : Nat → List (List (Int × Int) × List (Int × Int))} (hO0 : OK h0) (a1 : Int32) (b1 : 0 ≤ a1.toInt ∧ a1.toInt ≤ 8) (a2 : Int32) (a3 : Int32) (pre0 : NA h0) (pre1 : ((0 ≤ a2.toInt ∧ a2.toInt ≤ 5) ∧ gI h0 58 a2.toInt = 2 ∧ 0 ≤ a3.toInt ∧ 0 ≤ 5 ∧ a3.toInt ≤ gI h0 61 a2.toInt ∧ 5 ≤ gI h0 61 a2.toInt - a3.toInt)) (pre2 : TXF h0 L) (hQ : ∀ r h', (∃ q, r = some (.inl (bi q)) ∧ (q = true → (((0 ≤ fl h0 (63 + a2.toInt.toNat) (a3.toInt + 0) ∧ fl h0 (63 + a2.toInt.toNat) (a3.toInt + 0) ≤ 9999) ∧ (0 ≤ fl h0 (63 + a2.toInt.toNat) (a3.toInt + 1) ∧ fl h0 (63 + a2.toInt.toNat) (a3.toInt + 1) ≤ 9999) ∧ (0 ≤ fl h0 (63 + a2.toInt.toNat) (a3.toInt + 2) ∧ fl h0 (63 + a2.toInt.toNat) (a3.toInt + 2) ≤ 9999) ∧ (0 ≤ fl h0 (63 + a2.toInt.toNat) (a3.toInt + 3) ∧ fl h0 (63 + a2.toInt.toNat) (a3.toInt + 3) ≤ 400) ∧ (fl h0 (63 + a2.toInt.toNat) (a3.toInt + 4) = 0 ∨ fl h0 (63 + a2.toInt.toNat) (a3.toInt + 4) = 4 ∨ fl h0 (63 + a2.toInt.toNat) (a3.toInt + 4) = 5)) ∧ fO h0 15 1 < 150) ∧ fO h' 15 1 = fO h0 15 1 + 1) ∧ (q = false → ¬ (((0 ≤ fl h0 (63 + a2.toInt.toNat) (a3.toInt + 0) ∧ fl h0 (63 + a2.toInt.toNat) (a3.toInt + 0) ≤ 9999) ∧ (0 ≤ fl h0 (63 + a2.toInt.toNat) (a3.toInt + 1) ∧ fl h0 (63 + a2.toInt.toNat) (a3.toInt + 1) ≤ 9999) ∧ (0 ≤ fl h0 (63 + a2.toInt.toNat) (a3.toInt + 2) ∧ fl h0 (63 + a2.toInt.toNat) (a3.toInt + 2) ≤ 9999) ∧ (0 ≤ fl h0 (63 + a2.toInt.toNat) (a3.toInt + 3) ∧ fl h0 (63 + a2.toInt.toNat) (a3.toInt + 3) ≤ 400) ∧ (fl h0 (63 + a2.toInt.toNat) (a3.toInt + 4) = 0 ∨ fl h0 (63 + a2.toInt.toNat) (a3.toInt + 4) = 4 ∨ fl h0 (63 + a2.toInt.toNat) (a3.toInt + 4) = 5)) ∧ fO h0 15 1 < 150) ∧ fO h' 15 1 = fO h0 15 1)) → OK h' → un [16, 45, 46, 2501, 9010, 22005, 22006, 22007, 22008, 22009, 22010, 22011, 22012] h0 h' → (nW h' ≤ nW h0 + 1) → (NA h') → (KWc h0 h') → (imG (fO h' 15 1 = fO h0 15 1 + 1) (∃ z, NWz h' (fO h0 15 1) z (fl h0 (63 + a2.toInt.toNat) (a3.toInt + 4)) a1.toInt (-1) (fl h0 (63 + a2.toInt.toNat) (a3.toInt + 3)) (fl h0 (63 + a2.toInt.toNat) (a3.toInt + 0)) (fl h0 (63 + a2.toInt.toNat) (a3.toInt + 1)) (fl h0 (63 + a2.toInt.toNat) (a3.toInt + 2)) (-1) ∧ fA h' z 9 = some (.inr (.inr none)))) → (imG (fO h' 15 1 = fO h0 15 1 + 1) (∀ z, wz h' (fO h0 15 1) z → fO h' z 1 ≠ 3 → SPz h' z (L (fO h' z 2).toNat))) → (OW3 h0 h' h0.length) → (WPs h0 h') → Q r h') : uCall Mt (d + 7) 167 [(.inr (.inr (some 0))), (.inl a1), (.inl a2), (.inl a3)] h0 kc ks Q := by
  have l_m1 : ((-1) : Int32).toInt = -1 := by decide
  have l_0 : ((0) : Int32).toInt = 0 := by decide
  have l_1 : ((1) : Int32).toInt = 1 := by decide
  have l_2 : ((2) : Int32).toInt = 2 := by decide
  have l_3 : ((3) : Int32).toInt = 3 := by decide
  have l_4 : ((4) : Int32).toInt = 4 := by decide
  have l_5 : ((5) : Int32).toInt = 5 := by decide
  have l_150 : ((150) : Int32).toInt = 150 := by decide
  have l_400 : ((400) : Int32).toInt = 400 := by decide
  have l_9999 : ((9999) : Int32).toInt = 9999 := by decide
  refine uc_ink [some (.inr (.inr (some 0))), some (.inl a1), some (.inl a2), some (.inl a3), none, none, none, none, none, none] mt_167 (Nat.le_of_ble_eq_true rfl) rfl ?_
  obtain ⟨f2, f3, f4, f5, hc1, k6⟩ := ok_15 hO0
  have t7 := fO_of (k := 1) hc1 rfl
  have t8 := fO_of (k := 2) hc1 rfl
  have t9 := fO_of (k := 3) hc1 rfl
  have t10 := fO_of (k := 4) hc1 rfl
  have t11 := gI61 hO0 a2.toInt
  refine ur_ldA rfl rfl ?_
  have t12 : 0 ≤ a3.toInt ∧ a3.toInt ≤ 55 := by omega
  obtain ⟨hc13, k14⟩ := ok_0 hO0
  refine ur_get rfl hc13 rfl ?_
  refine ur_ldI rfl rfl ?_
  refine ur_ldI rfl rfl ?_
  obtain ⟨hc15, k16⟩ := ok_57 hO0
  refine ur_inl rfl (rcv_of hc15) (Nat.le_of_ble_eq_true rfl) (Nat.le_of_ble_eq_true rfl) (sd_X4_read hO0 _ _ (fun w17 hr18 => ?_))
  obtain ⟨y19, rfl, f20⟩ := hr18
  show uRun _ (uCall Mt _) _ 9 (_, [(.inr (.inl y19))], _, _, _)
  refine ur_l2iV rfl (fun x21 e22 => ?_)
  have t23 : fl h0 (63 + a2.toInt.toNat) (a3.toInt + 0) = x21.toInt := fl_of (by omega) (f20 (by omega)) e22
  clear f20
  refine ur_svIk [some (.inr (.inr (some 0))), some (.inl a1), some (.inl a2), some (.inl a3), some (.inl x21), none, none, none, none, none] rfl rfl ?_
  refine ur_ldA rfl rfl ?_
  refine ur_get rfl hc13 rfl ?_
  refine ur_ldI rfl rfl ?_
  refine ur_ldI rfl rfl ?_
  refine ur_push rfl ?_
  refine ur_binV rfl (fun x24 e25 => ?_)
  have z26 := any_r a3
  have t27 := ti_add e25 (by omega) (by omega)
  refine ur_inl rfl (rcv_of hc15) (Nat.le_of_ble_eq_true rfl) (Nat.le_of_ble_eq_true rfl) (sd_X4_read hO0 _ _ (fun w28 hr29 => ?_))
  obtain ⟨y30, rfl, f31⟩ := hr29
  show uRun _ (uCall Mt _) _ 23 (_, [(.inr (.inl y30))], _, _, _)
  refine ur_l2iV rfl (fun x32 e33 => ?_)
  have t34 : fl h0 (63 + a2.toInt.toNat) (a3.toInt + 1) = x32.toInt := fl_of (by omega) (f31 (by omega)) e33
  clear f31
  refine ur_svIk [some (.inr (.inr (some 0))), some (.inl a1), some (.inl a2), some (.inl a3), some (.inl x21), some (.inl x32), none, none, none, none] rfl rfl ?_
  refine ur_ldA rfl rfl ?_
  refine ur_get rfl hc13 rfl ?_
  refine ur_ldI rfl rfl ?_
  refine ur_ldI rfl rfl ?_
  refine ur_push rfl ?_
  refine ur_binV rfl (fun x35 e36 => ?_)
  have t37 := ti_add e36 (by omega) (by omega)
  refine ur_inl rfl (rcv_of hc15) (Nat.le_of_ble_eq_true rfl) (Nat.le_of_ble_eq_true rfl) (sd_X4_read hO0 _ _ (fun w38 hr39 => ?_))
  obtain ⟨y40, rfl, f41⟩ := hr39
  show uRun _ (uCall Mt _) _ 37 (_, [(.inr (.inl y40))], _, _, _)
  refine ur_l2iV rfl (fun x42 e43 => ?_)
  have t44 : fl h0 (63 + a2.toInt.toNat) (a3.toInt + 2) = x42.toInt := fl_of (by omega) (f41 (by omega)) e43
  clear f41
  refine ur_svIk [some (.inr (.inr (some 0))), some (.inl a1), some (.inl a2), some (.inl a3), some (.inl x21), some (.inl x32), some (.inl x42), none, none, none] rfl rfl ?_
  refine ur_ldA rfl rfl ?_
  refine ur_get rfl hc13 rfl ?_
  refine ur_ldI rfl rfl ?_
  refine ur_ldI rfl rfl ?_
  refine ur_push rfl ?_
  refine ur_binV rfl (fun x45 e46 => ?_)
  have t47 := ti_add e46 (by omega) (by omega)
  refine ur_inl rfl (rcv_of hc15) (Nat.le_of_ble_eq_true rfl) (Nat.le_of_ble_eq_true rfl) (sd_X4_read hO0 _ _ (fun w48 hr49 => ?_))
  obtain ⟨y50, rfl, f51⟩ := hr49
  show uRun _ (uCall Mt _) _ 51 (_, [(.inr (.inl y50))], _, _, _)
  refine ur_l2iV rfl (fun x52 e53 => ?_)
  have t54 : fl h0 (63 + a2.toInt.toNat) (a3.toInt + 3) = x52.toInt := fl_of (by omega) (f51 (by omega)) e53
  clear f51
  refine ur_svIk [some (.inr (.inr (some 0))), some (.inl a1), some (.inl a2), some (.inl a3), some (.inl x21), some (.inl x32), some (.inl x42), some (.inl x52), none, none] rfl rfl ?_
  refine ur_ldA rfl rfl ?_
  refine ur_get rfl hc13 rfl ?_
  refine ur_ldI rfl rfl ?_
  refine ur_ldI rfl rfl ?_
  refine ur_push rfl ?_
  refine ur_binV rfl (fun x55 e56 => ?_)
  have t57 := ti_add e56 (by omega) (by omega)
  refine ur_inl rfl (rcv_of hc15) (Nat.le_of_ble_eq_true rfl) (Nat.le_of_ble_eq_true rfl) (sd_X4_read hO0 _ _ (fun w58 hr59 => ?_))
  obtain ⟨y60, rfl, f61⟩ := hr59
  show uRun _ (uCall Mt _) _ 65 (_, [(.inr (.inl y60))], _, _, _)
  refine ur_l2iV rfl (fun x62 e63 => ?_)
  have t64 : fl h0 (63 + a2.toInt.toNat) (a3.toInt + 4) = x62.toInt := fl_of (by omega) (f61 (by omega)) e63
  clear f61
  refine ur_svIk [some (.inr (.inr (some 0))), some (.inl a1), some (.inl a2), some (.inl a3), some (.inl x21), some (.inl x32), some (.inl x42), some (.inl x52), some (.inl x62), none] rfl rfl ?_
  refine ur_ldI rfl rfl ?_
  refine ur_callv rfl rfl (Nat.le_of_ble_eq_true rfl) (Nat.le_of_ble_eq_true rfl) rfl (sp_isDat _ _) ?_
  refine ur_eqB rfl (fun c67 => ?_) (fun c67 => ?_)
  · have t68 := wi_noL c67 l_0 l_9999
    refine ur_push rfl ?_
    exact ur_ret rfl rfl (hQ _ _ ⟨false, rfl, fun e => absurd e (by decide), fun _ => by omega⟩ hO0 un.rf (by omega) pre0 KWc.rf (fun q => by exfalso; omega) (fun q => by exfalso; omega) OW3.rf WPs.rf)
  · have t69 := wi_toL c67 l_0 l_9999
    refine ur_ldI rfl rfl ?_
    refine ur_callv rfl rfl (Nat.le_of_ble_eq_true rfl) (Nat.le_of_ble_eq_true rfl) rfl (sp_isDat _ _) ?_
    refine ur_eqB rfl (fun c72 => ?_) (fun c72 => ?_)
    · have t73 := wi_noL c72 l_0 l_9999
      refine ur_push rfl ?_
      exact ur_ret rfl rfl (hQ _ _ ⟨false, rfl, fun e => absurd e (by decide), fun _ => by omega⟩ hO0 un.rf (by omega) pre0 KWc.rf (fun q => by exfalso; omega) (fun q => by exfalso; omega) OW3.rf WPs.rf)
    · have t74 := wi_toL c72 l_0 l_9999
      refine ur_ldI rfl rfl ?_
      refine ur_callv rfl rfl (Nat.le_of_ble_eq_true rfl) (Nat.le_of_ble_eq_true rfl) rfl (sp_isDat _ _) ?_
      refine ur_eqB rfl (fun c77 => ?_) (fun c77 => ?_)
      · have t78 := wi_noL c77 l_0 l_9999
        refine ur_push rfl ?_
        exact ur_ret rfl rfl (hQ _ _ ⟨false, rfl, fun e => absurd e (by decide), fun _ => by omega⟩ hO0 un.rf (by omega) pre0 KWc.rf (fun q => by exfalso; omega) (fun q => by exfalso; omega) OW3.rf WPs.rf)
      · have t79 := wi_toL c77 l_0 l_9999
        refine ur_ldI rfl rfl ?_
        refine ur_push rfl ?_
        refine ur_push rfl ?_
        refine ur_callv rfl rfl (Nat.le_of_ble_eq_true rfl) (Nat.le_of_ble_eq_true rfl) rfl (sp_within _ _ _ _ _) ?_
        refine ur_neB rfl (fun c82 => ?_) (fun c82 => ?_)
        · have t83 := wi_toL c82 l_0 l_400
          refine ur_ldI rfl rfl ?_
          refine ur_if1 rfl (fun c84 => ?_) (fun c84 => ?_)
          · have t85 := eq_to c84
            refine ur_ldA rfl rfl ?_
            refine ur_get rfl hc13 rfl ?_
            refine ur_get rfl hc1 rfl ?_
            refine ur_push rfl ?_
            refine ur_if2 rfl (fun c86 => ?_) (fun c86 => ?_)
            · have t87 := lt_to c86
              refine ur_new rfl (Nat.le_of_ble_eq_true rfl) ?_
              refine ur_dup rfl rfl ?_
              refine ur_ldA rfl rfl ?_
              refine ur_get rfl (hs_ap hc13) rfl ?_
              refine ur_get rfl (hs_ap hc1) rfl ?_
              refine ur_ldI rfl rfl ?_
              refine ur_ldI rfl rfl ?_
              refine ur_push rfl ?_
              refine ur_ldI rfl rfl ?_
              refine ur_inl rfl (rcv_of ap_0) (Nat.le_of_ble_eq_true rfl) (Nat.le_of_ble_eq_true rfl) (sd_newWord hO0 _ _ _ _ _ (by show (0 ≤ f2.toInt ∧ f2.toInt ≤ 149) ∧ (0 ≤ x62.toInt ∧ x62.toInt ≤ 7) ∧ (0 ≤ a1.toInt ∧ a1.toInt ≤ 8) ∧ -1 ≤ ((-1) : Int32).toInt ∧ ((-1) : Int32).toInt ≤ 19; omega) (fun w89 h92 hr90 hO92 hv92 k91 hn95 hx93 => ?_))
              have hc94 : h92[h0.length]? = some (.inl (10, [.inl f2, .inl x62, .inl a1, .inl (-1), .inl x52, .inl 0, .inl 0, .inl 0, .inl (-1), .inr (.inr none), .inl 0, .inl 0, .inl 0])) := by rw [hx93]; exact ap_0
              have hu92 : un [16, 45, 46, 2501, 9010, 22005, 22006, 22007, 22008, 22009, 22010, 22011, 22012] h0 h92 := hv92.mono (by decide)
              subst hr90
              show uRun _ (uCall Mt _) _ 160 (_, [(.inr (.inr (some h0.length)))], _, _, _)
              refine ur_svAk [some (.inr (.inr (some 0))), some (.inl a1), some (.inl a2), some (.inl a3), some (.inl x21), some (.inl x32), some (.inl x42), some (.inl x52), some (.inl x62), some (.inr (.inr (some h0.length)))] rfl rfl ?_
              refine ur_ldA rfl rfl ?_
              refine ur_ldI rfl rfl ?_
              refine ur_ldI rfl rfl ?_
              refine ur_ldI rfl rfl ?_
              obtain ⟨g112, f97, f98, f99, f100, f101, f102, f103, f104, f105, o109, f106, f107, f108, hc96, k110, k111⟩ := hO92.word k91.2
              have t113 := fO_keep (a := 15) (ci := 1) (n := 11) (k := 1) hO0 hO92 hv92 (by decide) rfl (by decide) rfl (by decide)
              have t114 := fO_keep (a := 15) (ci := 1) (n := 11) (k := 2) hO0 hO92 hv92 (by decide) rfl (by decide) rfl (by decide)
              have t115 := fO_keep (a := 15) (ci := 1) (n := 11) (k := 3) hO0 hO92 hv92 (by decide) rfl (by decide) rfl (by decide)
              have t116 := fO_keep (a := 15) (ci := 1) (n := 11) (k := 4) hO0 hO92 hv92 (by decide) rfl (by decide) rfl (by decide)
              refine ur_inl rfl (rcv_of hc96) (Nat.le_of_ble_eq_true rfl) (Nat.le_of_ble_eq_true rfl) (st_X10_dateIt hO92 g112 k91.2 _ _ _ (fun w117 h122 hr118 hO122 hv122 hp119 hp120 hp121 => ?_))
              have hu122 : un [16, 45, 46, 2501, 9010, 22005, 22006, 22007, 22008, 22009, 22010, 22011, 22012] h92 h122 := hv122.mono (by decide)
              subst hr118
              show uRun _ (uCall Mt _) _ 173 (_, [], _, _, _)
              have t123 := fO_of (k := 1) (hv122.ko (n := 11) (hv92.ko (n := 11) hc1 rfl (wid_f (by decide)) (by decide)) rfl (wid_f (by decide)) (by decide)) rfl
              have t124 := fO_of (k := 2) (hv122.ko (n := 11) (hv92.ko (n := 11) hc1 rfl (wid_f (by decide)) (by decide)) rfl (wid_f (by decide)) (by decide)) rfl
              have t125 := fO_of (k := 3) (hv122.ko (n := 11) (hv92.ko (n := 11) hc1 rfl (wid_f (by decide)) (by decide)) rfl (wid_f (by decide)) (by decide)) rfl
              have t126 := fO_of (k := 4) (hv122.ko (n := 11) (hv92.ko (n := 11) hc1 rfl (wid_f (by decide)) (by decide)) rfl (wid_f (by decide)) (by decide)) rfl
              refine ur_ldA rfl rfl ?_
              refine ur_get rfl (hv122.ko (n := 8) (hv92.ko (n := 8) hc13 rfl (wid_f (by decide)) (by decide)) rfl (wid_f (by decide)) (by decide)) rfl ?_
              obtain ⟨f128, f129, hc127, k130⟩ := ok_41 hO122
              have t131 := fO_keep (a := 15) (ci := 1) (n := 11) (k := 1) hO92 hO122 hv122 (by decide) rfl (by decide) rfl (by decide)
              have t132 := fO_keep (a := 15) (ci := 1) (n := 11) (k := 2) hO92 hO122 hv122 (by decide) rfl (by decide) rfl (by decide)
              have t133 := fO_keep (a := 15) (ci := 1) (n := 11) (k := 3) hO92 hO122 hv122 (by decide) rfl (by decide) rfl (by decide)
              have t134 := fO_keep (a := 15) (ci := 1) (n := 11) (k := 4) hO92 hO122 hv122 (by decide) rfl (by decide) rfl (by decide)
              refine ur_inl rfl (rcv_of hc127) (Nat.le_of_ble_eq_true rfl) (Nat.le_of_ble_eq_true rfl) (sz_X7_forgetWeights hO122  (fun w135 h138 hr136 hO138 hv138 hp137 => ?_))
              have hu138 : un [16, 45, 46, 2501, 9010, 22005, 22006, 22007, 22008, 22009, 22010, 22011, 22012] h122 h138 := hv138.mono (by decide)
              subst hr136
              show uRun _ (uCall Mt _) _ 180 (_, [], _, _, _)
              have t139 := fO_of (k := 1) (hv138.ko (n := 11) (hv122.ko (n := 11) (hv92.ko (n := 11) hc1 rfl (wid_f (by decide)) (by decide)) rfl (wid_f (by decide)) (by decide)) rfl (wid_f (by decide)) (by decide)) rfl
              have t140 := fO_of (k := 2) (hv138.ko (n := 11) (hv122.ko (n := 11) (hv92.ko (n := 11) hc1 rfl (wid_f (by decide)) (by decide)) rfl (wid_f (by decide)) (by decide)) rfl (wid_f (by decide)) (by decide)) rfl
              have t141 := fO_of (k := 3) (hv138.ko (n := 11) (hv122.ko (n := 11) (hv92.ko (n := 11) hc1 rfl (wid_f (by decide)) (by decide)) rfl (wid_f (by decide)) (by decide)) rfl (wid_f (by decide)) (by decide)) rfl
              have t142 := fO_of (k := 4) (hv138.ko (n := 11) (hv122.ko (n := 11) (hv92.ko (n := 11) hc1 rfl (wid_f (by decide)) (by decide)) rfl (wid_f (by decide)) (by decide)) rfl (wid_f (by decide)) (by decide)) rfl
              refine ur_ldA rfl rfl ?_
              refine ur_get rfl (hv138.ko (n := 8) (hv122.ko (n := 8) (hv92.ko (n := 8) hc13 rfl (wid_f (by decide)) (by decide)) rfl (wid_f (by decide)) (by decide)) rfl (wid_f (by decide)) (by decide)) rfl ?_
              refine ur_ldA rfl rfl ?_
              refine ur_push rfl ?_
              have k143 : fO h138 h0.length 1 = (x62 : Int32).toInt := ((fO_kw hO122 hO138 hv138 g112 (hu122.tm k91.2 (by decide)) rfl (by decide)).trans ((fO_kw hO92 hO122 hv122 g112 k91.2 rfl (by decide)).trans (fO_of (k := 1) hc94 rfl)))
              have t144 := fO_keep (a := 15) (ci := 1) (n := 11) (k := 1) hO122 hO138 hv138 (by decide) rfl (by decide) rfl (by decide)
              have t145 := fO_keep (a := 15) (ci := 1) (n := 11) (k := 2) hO122 hO138 hv138 (by decide) rfl (by decide) rfl (by decide)
              have t146 := fO_keep (a := 15) (ci := 1) (n := 11) (k := 3) hO122 hO138 hv138 (by decide) rfl (by decide) rfl (by decide)
              have t147 := fO_keep (a := 15) (ci := 1) (n := 11) (k := 4) hO122 hO138 hv138 (by decide) rfl (by decide) rfl (by decide)
              refine ur_inl rfl (rcv_of (hv138.ko (n := 11) (hv122.ko (n := 11) (hv92.ko (n := 11) hc1 rfl (wid_f (by decide)) (by decide)) rfl (wid_f (by decide)) (by decide)) rfl (wid_f (by decide)) (by decide))) (Nat.le_of_ble_eq_true rfl) (Nat.le_of_ble_eq_true rfl) (st_X1_addWord hO138 g112 (hu138.tm (hu122.tm k91.2 (by decide)) (by decide)) _ (((pre0.un hO0 hO92 hv92 (by decide) (by decide)).un hO92 hO122 hv122 (by decide) (by decide)).un hO122 hO138 hv138 (by decide) (by decide)) (by omega) (by rw [k143]; omega) (((pre2.un hO0 hO92 hv92 (by decide)).un hO92 hO122 hv122 (by decide)).un hO122 hO138 hv138 (by decide)) (fun w148 h158 hr149 hO158 hv158 hp150 hp151 hp152 hp153 hp154 hp155 hp156 hp157 => ?_))
              have hu158 : un [16, 45, 46, 2501, 9010, 22005, 22006, 22007, 22008, 22009, 22010, 22011, 22012] h138 h158 := hv158.mono (by decide)
              obtain ⟨x159, rfl, t160⟩ := hr149
              show uRun _ (uCall Mt _) _ 190 (_, [(.inl x159)], _, _, _)
              obtain ⟨f162, f163, f164, f165, hc161, k166⟩ := ok_15 hO158
              have t167 := fO_of (k := 1) hc161 rfl
              have t168 := fO_of (k := 2) hc161 rfl
              have t169 := fO_of (k := 3) hc161 rfl
              have t170 := fO_of (k := 4) hc161 rfl
              refine ur_pop rfl rfl ?_
              refine ur_push rfl ?_
              have t171 := fO_keep (a := 15) (ci := 1) (n := 11) (k := 2) hO138 hO158 hv158 (by decide) rfl (by decide) rfl (by decide)
              have t172 := fO_keep (a := 15) (ci := 1) (n := 11) (k := 3) hO138 hO158 hv158 (by decide) rfl (by decide) rfl (by decide)
              have t173 := fO_keep (a := 15) (ci := 1) (n := 11) (k := 4) hO138 hO158 hv158 (by decide) rfl (by decide) rfl (by decide)
              have t174 := hv122.nW (by decide)
              have t175 := hv138.nW (by decide)
              have t176 := hv158.nW (by decide)
              have w177 : arR h158 16 = (arR h0 16).set (fO h0 15 1).toNat (some h0.length) := by rw [hp153, show arR h138 16 = arR h0 16 from ((arR_u hO122 hv138 (by decide)).trans ((arR_u hO92 hv122 (by decide)).trans (arR_u hO0 hv92 (by decide)))), show fO h138 15 1 = fO h0 15 1 by omega]
              have w178 : OWK h0 h158 (h0.length) := ((((OWK.un hO0 hv92 (by decide)).tr hp119).tr (OWK.un hO122 hv138 (by decide))).tr hp152)
              have w179 := KWc.push hO0 w178 rfl w177 (by omega)
              have w180 : fO h158 (h0.length) 0 = (f2 : Int32).toInt := fO_fA (((fA_un hO138 hv158 g112 (hu138.tm (hu122.tm k91.2 (by decide)) (by decide)) (by decide) (by decide)).trans ((fA_un hO122 hv138 g112 (hu122.tm k91.2 (by decide)) (by decide) (by decide)).trans (fA_un hO92 hv122 g112 k91.2 (by decide) (by decide)))).trans (fA_of (k := 0) hc94))
              have w181 : fO h158 (h0.length) 1 = (x62 : Int32).toInt := fO_fA (((fA_un hO138 hv158 g112 (hu138.tm (hu122.tm k91.2 (by decide)) (by decide)) (by decide) (by decide)).trans ((fA_un hO122 hv138 g112 (hu122.tm k91.2 (by decide)) (by decide) (by decide)).trans (fA_un hO92 hv122 g112 k91.2 (by decide) (by decide)))).trans (fA_of (k := 1) hc94))
              have w182 : fO h158 (h0.length) 2 = (a1 : Int32).toInt := fO_fA (((fA_un hO138 hv158 g112 (hu138.tm (hu122.tm k91.2 (by decide)) (by decide)) (by decide) (by decide)).trans ((fA_un hO122 hv138 g112 (hu122.tm k91.2 (by decide)) (by decide) (by decide)).trans (fA_un hO92 hv122 g112 k91.2 (by decide) (by decide)))).trans (fA_of (k := 2) hc94))
              have w183 : fO h158 (h0.length) 3 = ((-1) : Int32).toInt := fO_fA (((fA_un hO138 hv158 g112 (hu138.tm (hu122.tm k91.2 (by decide)) (by decide)) (by decide) (by decide)).trans ((fA_un hO122 hv138 g112 (hu122.tm k91.2 (by decide)) (by decide) (by decide)).trans (fA_un hO92 hv122 g112 k91.2 (by decide) (by decide)))).trans (fA_of (k := 3) hc94))
              have w184 : fO h158 (h0.length) 4 = (x52 : Int32).toInt := fO_fA (((fA_un hO138 hv158 g112 (hu138.tm (hu122.tm k91.2 (by decide)) (by decide)) (by decide) (by decide)).trans ((fA_un hO122 hv138 g112 (hu122.tm k91.2 (by decide)) (by decide) (by decide)).trans (fA_un hO92 hv122 g112 k91.2 (by decide) (by decide)))).trans (fA_of (k := 4) hc94))
              have w185 : fO h158 (h0.length) 5 = (x21 : Int32).toInt := fO_fA (((fA_un hO138 hv158 g112 (hu138.tm (hu122.tm k91.2 (by decide)) (by decide)) (by decide) (by decide)).trans (fA_un hO122 hv138 g112 (hu122.tm k91.2 (by decide)) (by decide) (by decide))).trans hp120.1)
              have w186 : fO h158 (h0.length) 6 = (x32 : Int32).toInt := fO_fA (((fA_un hO138 hv158 g112 (hu138.tm (hu122.tm k91.2 (by decide)) (by decide)) (by decide) (by decide)).trans (fA_un hO122 hv138 g112 (hu122.tm k91.2 (by decide)) (by decide) (by decide))).trans hp120.2.1)
              have w187 : fO h158 (h0.length) 7 = (x42 : Int32).toInt := fO_fA (((fA_un hO138 hv158 g112 (hu138.tm (hu122.tm k91.2 (by decide)) (by decide)) (by decide) (by decide)).trans (fA_un hO122 hv138 g112 (hu122.tm k91.2 (by decide)) (by decide) (by decide))).trans hp120.2.2)
              exact ur_ret rfl rfl (hQ _ _ ⟨true, rfl, fun _ => by omega, fun e => absurd e (by decide)⟩ hO158 (hu92.tr (hu122.tr (hu138.tr hu158))) (by omega) hp151 w179.1 (fun _ => ⟨h0.length, ⟨w179.2, by omega, w181.trans t64.symm, w182, w183.trans (by decide), w184.trans t54.symm, w185.trans t23.symm, w186.trans t34.symm, w187.trans t44.symm, (fO_fA ((hp154.1 (by omega)).trans (((fA_un hO122 hv138 g112 (hu122.tm k91.2 (by decide)) (by decide) (by decide)).trans (fA_un hO92 hv122 g112 k91.2 (by decide) (by decide))).trans (fA_of (k := 8) hc94)))).trans (by decide)⟩, (hp155.2 (by omega)).trans (((fA_un hO122 hv138 g112 (hu122.tm k91.2 (by decide)) (by decide) (by decide)).trans (fA_un hO92 hv122 g112 k91.2 (by decide) (by decide))).trans (fA_of (k := 9) hc94))⟩) (fun _ z w k => by obtain rfl := wz_u w179.2 w; have x := hp156 (by rw [← fO_eA (show fA h158 (h0.length) 1 = fA h138 (h0.length) 1 from (fA_un hO138 hv158 g112 (hu138.tm (hu122.tm k91.2 (by decide)) (by decide)) (by decide) (by decide)))]; exact k); rw [← fO_eA (show fA h158 (h0.length) 2 = fA h138 (h0.length) 2 from (fA_un hO138 hv158 g112 (hu138.tm (hu122.tm k91.2 (by decide)) (by decide)) (by decide) (by decide)))] at x; exact x) ((((OW3.un hO0 hv92 (by decide)).tr hp121).tr (OW3.un hO122 hv138 (by decide))).tr hp157) (WPs.z (hp137.un hO138 hv158 (by decide))))
            · have t188 := lt_no c86
              refine ur_push rfl ?_
              exact ur_ret rfl rfl (hQ _ _ ⟨false, rfl, fun e => absurd e (by decide), fun _ => by omega⟩ hO0 un.rf (by omega) pre0 KWc.rf (fun q => by exfalso; omega) (fun q => by exfalso; omega) OW3.rf WPs.rf)
          · have t189 := eq_no c84
            refine ur_ldI rfl rfl ?_
            refine ur_push rfl ?_
            refine ur_if2 rfl (fun c190 => ?_) (fun c190 => ?_)
            · have t191 := eq_to c190
              refine ur_ldA rfl rfl ?_
              refine ur_get rfl hc13 rfl ?_
              refine ur_get rfl hc1 rfl ?_
              refine ur_push rfl ?_
              refine ur_if2 rfl (fun c192 => ?_) (fun c192 => ?_)
              · have t193 := lt_to c192
                refine ur_new rfl (Nat.le_of_ble_eq_true rfl) ?_
                refine ur_dup rfl rfl ?_
                refine ur_ldA rfl rfl ?_
                refine ur_get rfl (hs_ap hc13) rfl ?_
                refine ur_get rfl (hs_ap hc1) rfl ?_
                refine ur_ldI rfl rfl ?_
                refine ur_ldI rfl rfl ?_
                refine ur_push rfl ?_
                refine ur_ldI rfl rfl ?_
                refine ur_inl rfl (rcv_of ap_0) (Nat.le_of_ble_eq_true rfl) (Nat.le_of_ble_eq_true rfl) (sd_newWord hO0 _ _ _ _ _ (by show (0 ≤ f2.toInt ∧ f2.toInt ≤ 149) ∧ (0 ≤ x62.toInt ∧ x62.toInt ≤ 7) ∧ (0 ≤ a1.toInt ∧ a1.toInt ≤ 8) ∧ -1 ≤ ((-1) : Int32).toInt ∧ ((-1) : Int32).toInt ≤ 19; omega) (fun w195 h198 hr196 hO198 hv198 k197 hn201 hx199 => ?_))
                have hc200 : h198[h0.length]? = some (.inl (10, [.inl f2, .inl x62, .inl a1, .inl (-1), .inl x52, .inl 0, .inl 0, .inl 0, .inl (-1), .inr (.inr none), .inl 0, .inl 0, .inl 0])) := by rw [hx199]; exact ap_0
                have hu198 : un [16, 45, 46, 2501, 9010, 22005, 22006, 22007, 22008, 22009, 22010, 22011, 22012] h0 h198 := hv198.mono (by decide)
                subst hr196
                show uRun _ (uCall Mt _) _ 160 (_, [(.inr (.inr (some h0.length)))], _, _, _)
                refine ur_svAk [some (.inr (.inr (some 0))), some (.inl a1), some (.inl a2), some (.inl a3), some (.inl x21), some (.inl x32), some (.inl x42), some (.inl x52), some (.inl x62), some (.inr (.inr (some h0.length)))] rfl rfl ?_
                refine ur_ldA rfl rfl ?_
                refine ur_ldI rfl rfl ?_
                refine ur_ldI rfl rfl ?_
                refine ur_ldI rfl rfl ?_
                obtain ⟨g218, f203, f204, f205, f206, f207, f208, f209, f210, f211, o215, f212, f213, f214, hc202, k216, k217⟩ := hO198.word k197.2
                have t219 := fO_keep (a := 15) (ci := 1) (n := 11) (k := 1) hO0 hO198 hv198 (by decide) rfl (by decide) rfl (by decide)
                have t220 := fO_keep (a := 15) (ci := 1) (n := 11) (k := 2) hO0 hO198 hv198 (by decide) rfl (by decide) rfl (by decide)
                have t221 := fO_keep (a := 15) (ci := 1) (n := 11) (k := 3) hO0 hO198 hv198 (by decide) rfl (by decide) rfl (by decide)
                have t222 := fO_keep (a := 15) (ci := 1) (n := 11) (k := 4) hO0 hO198 hv198 (by decide) rfl (by decide) rfl (by decide)
                refine ur_inl rfl (rcv_of hc202) (Nat.le_of_ble_eq_true rfl) (Nat.le_of_ble_eq_true rfl) (st_X10_dateIt hO198 g218 k197.2 _ _ _ (fun w223 h228 hr224 hO228 hv228 hp225 hp226 hp227 => ?_))
                have hu228 : un [16, 45, 46, 2501, 9010, 22005, 22006, 22007, 22008, 22009, 22010, 22011, 22012] h198 h228 := hv228.mono (by decide)
                subst hr224
                show uRun _ (uCall Mt _) _ 173 (_, [], _, _, _)
                have t229 := fO_of (k := 1) (hv228.ko (n := 11) (hv198.ko (n := 11) hc1 rfl (wid_f (by decide)) (by decide)) rfl (wid_f (by decide)) (by decide)) rfl
                have t230 := fO_of (k := 2) (hv228.ko (n := 11) (hv198.ko (n := 11) hc1 rfl (wid_f (by decide)) (by decide)) rfl (wid_f (by decide)) (by decide)) rfl
                have t231 := fO_of (k := 3) (hv228.ko (n := 11) (hv198.ko (n := 11) hc1 rfl (wid_f (by decide)) (by decide)) rfl (wid_f (by decide)) (by decide)) rfl
                have t232 := fO_of (k := 4) (hv228.ko (n := 11) (hv198.ko (n := 11) hc1 rfl (wid_f (by decide)) (by decide)) rfl (wid_f (by decide)) (by decide)) rfl
                refine ur_ldA rfl rfl ?_
                refine ur_get rfl (hv228.ko (n := 8) (hv198.ko (n := 8) hc13 rfl (wid_f (by decide)) (by decide)) rfl (wid_f (by decide)) (by decide)) rfl ?_
                obtain ⟨f234, f235, hc233, k236⟩ := ok_41 hO228
                have t237 := fO_keep (a := 15) (ci := 1) (n := 11) (k := 1) hO198 hO228 hv228 (by decide) rfl (by decide) rfl (by decide)
                have t238 := fO_keep (a := 15) (ci := 1) (n := 11) (k := 2) hO198 hO228 hv228 (by decide) rfl (by decide) rfl (by decide)
                have t239 := fO_keep (a := 15) (ci := 1) (n := 11) (k := 3) hO198 hO228 hv228 (by decide) rfl (by decide) rfl (by decide)
                have t240 := fO_keep (a := 15) (ci := 1) (n := 11) (k := 4) hO198 hO228 hv228 (by decide) rfl (by decide) rfl (by decide)
                refine ur_inl rfl (rcv_of hc233) (Nat.le_of_ble_eq_true rfl) (Nat.le_of_ble_eq_true rfl) (sz_X7_forgetWeights hO228  (fun w241 h244 hr242 hO244 hv244 hp243 => ?_))
                have hu244 : un [16, 45, 46, 2501, 9010, 22005, 22006, 22007, 22008, 22009, 22010, 22011, 22012] h228 h244 := hv244.mono (by decide)
                subst hr242
                show uRun _ (uCall Mt _) _ 180 (_, [], _, _, _)
                have t245 := fO_of (k := 1) (hv244.ko (n := 11) (hv228.ko (n := 11) (hv198.ko (n := 11) hc1 rfl (wid_f (by decide)) (by decide)) rfl (wid_f (by decide)) (by decide)) rfl (wid_f (by decide)) (by decide)) rfl
                have t246 := fO_of (k := 2) (hv244.ko (n := 11) (hv228.ko (n := 11) (hv198.ko (n := 11) hc1 rfl (wid_f (by decide)) (by decide)) rfl (wid_f (by decide)) (by decide)) rfl (wid_f (by decide)) (by decide)) rfl
                have t247 := fO_of (k := 3) (hv244.ko (n := 11) (hv228.ko (n := 11) (hv198.ko (n := 11) hc1 rfl (wid_f (by decide)) (by decide)) rfl (wid_f (by decide)) (by decide)) rfl (wid_f (by decide)) (by decide)) rfl
                have t248 := fO_of (k := 4) (hv244.ko (n := 11) (hv228.ko (n := 11) (hv198.ko (n := 11) hc1 rfl (wid_f (by decide)) (by decide)) rfl (wid_f (by decide)) (by decide)) rfl (wid_f (by decide)) (by decide)) rfl
                refine ur_ldA rfl rfl ?_
                refine ur_get rfl (hv244.ko (n := 8) (hv228.ko (n := 8) (hv198.ko (n := 8) hc13 rfl (wid_f (by decide)) (by decide)) rfl (wid_f (by decide)) (by decide)) rfl (wid_f (by decide)) (by decide)) rfl ?_
                refine ur_ldA rfl rfl ?_
                refine ur_push rfl ?_
                have k249 : fO h244 h0.length 1 = (x62 : Int32).toInt := ((fO_kw hO228 hO244 hv244 g218 (hu228.tm k197.2 (by decide)) rfl (by decide)).trans ((fO_kw hO198 hO228 hv228 g218 k197.2 rfl (by decide)).trans (fO_of (k := 1) hc200 rfl)))
                have t250 := fO_keep (a := 15) (ci := 1) (n := 11) (k := 1) hO228 hO244 hv244 (by decide) rfl (by decide) rfl (by decide)
                have t251 := fO_keep (a := 15) (ci := 1) (n := 11) (k := 2) hO228 hO244 hv244 (by decide) rfl (by decide) rfl (by decide)
                have t252 := fO_keep (a := 15) (ci := 1) (n := 11) (k := 3) hO228 hO244 hv244 (by decide) rfl (by decide) rfl (by decide)
                have t253 := fO_keep (a := 15) (ci := 1) (n := 11) (k := 4) hO228 hO244 hv244 (by decide) rfl (by decide) rfl (by decide)
                refine ur_inl rfl (rcv_of (hv244.ko (n := 11) (hv228.ko (n := 11) (hv198.ko (n := 11) hc1 rfl (wid_f (by decide)) (by decide)) rfl (wid_f (by decide)) (by decide)) rfl (wid_f (by decide)) (by decide))) (Nat.le_of_ble_eq_true rfl) (Nat.le_of_ble_eq_true rfl) (st_X1_addWord hO244 g218 (hu244.tm (hu228.tm k197.2 (by decide)) (by decide)) _ (((pre0.un hO0 hO198 hv198 (by decide) (by decide)).un hO198 hO228 hv228 (by decide) (by decide)).un hO228 hO244 hv244 (by decide) (by decide)) (by omega) (by rw [k249]; omega) (((pre2.un hO0 hO198 hv198 (by decide)).un hO198 hO228 hv228 (by decide)).un hO228 hO244 hv244 (by decide)) (fun w254 h264 hr255 hO264 hv264 hp256 hp257 hp258 hp259 hp260 hp261 hp262 hp263 => ?_))
                have hu264 : un [16, 45, 46, 2501, 9010, 22005, 22006, 22007, 22008, 22009, 22010, 22011, 22012] h244 h264 := hv264.mono (by decide)
                obtain ⟨x265, rfl, t266⟩ := hr255
                show uRun _ (uCall Mt _) _ 190 (_, [(.inl x265)], _, _, _)
                obtain ⟨f268, f269, f270, f271, hc267, k272⟩ := ok_15 hO264
                have t273 := fO_of (k := 1) hc267 rfl
                have t274 := fO_of (k := 2) hc267 rfl
                have t275 := fO_of (k := 3) hc267 rfl
                have t276 := fO_of (k := 4) hc267 rfl
                refine ur_pop rfl rfl ?_
                refine ur_push rfl ?_
                have t277 := fO_keep (a := 15) (ci := 1) (n := 11) (k := 2) hO244 hO264 hv264 (by decide) rfl (by decide) rfl (by decide)
                have t278 := fO_keep (a := 15) (ci := 1) (n := 11) (k := 3) hO244 hO264 hv264 (by decide) rfl (by decide) rfl (by decide)
                have t279 := fO_keep (a := 15) (ci := 1) (n := 11) (k := 4) hO244 hO264 hv264 (by decide) rfl (by decide) rfl (by decide)
                have t280 := hv228.nW (by decide)
                have t281 := hv244.nW (by decide)
                have t282 := hv264.nW (by decide)
                have w283 : arR h264 16 = (arR h0 16).set (fO h0 15 1).toNat (some h0.length) := by rw [hp259, show arR h244 16 = arR h0 16 from ((arR_u hO228 hv244 (by decide)).trans ((arR_u hO198 hv228 (by decide)).trans (arR_u hO0 hv198 (by decide)))), show fO h244 15 1 = fO h0 15 1 by omega]
                have w284 : OWK h0 h264 (h0.length) := ((((OWK.un hO0 hv198 (by decide)).tr hp225).tr (OWK.un hO228 hv244 (by decide))).tr hp258)
                have w285 := KWc.push hO0 w284 rfl w283 (by omega)
                have w286 : fO h264 (h0.length) 0 = (f2 : Int32).toInt := fO_fA (((fA_un hO244 hv264 g218 (hu244.tm (hu228.tm k197.2 (by decide)) (by decide)) (by decide) (by decide)).trans ((fA_un hO228 hv244 g218 (hu228.tm k197.2 (by decide)) (by decide) (by decide)).trans (fA_un hO198 hv228 g218 k197.2 (by decide) (by decide)))).trans (fA_of (k := 0) hc200))
                have w287 : fO h264 (h0.length) 1 = (x62 : Int32).toInt := fO_fA (((fA_un hO244 hv264 g218 (hu244.tm (hu228.tm k197.2 (by decide)) (by decide)) (by decide) (by decide)).trans ((fA_un hO228 hv244 g218 (hu228.tm k197.2 (by decide)) (by decide) (by decide)).trans (fA_un hO198 hv228 g218 k197.2 (by decide) (by decide)))).trans (fA_of (k := 1) hc200))
                have w288 : fO h264 (h0.length) 2 = (a1 : Int32).toInt := fO_fA (((fA_un hO244 hv264 g218 (hu244.tm (hu228.tm k197.2 (by decide)) (by decide)) (by decide) (by decide)).trans ((fA_un hO228 hv244 g218 (hu228.tm k197.2 (by decide)) (by decide) (by decide)).trans (fA_un hO198 hv228 g218 k197.2 (by decide) (by decide)))).trans (fA_of (k := 2) hc200))
                have w289 : fO h264 (h0.length) 3 = ((-1) : Int32).toInt := fO_fA (((fA_un hO244 hv264 g218 (hu244.tm (hu228.tm k197.2 (by decide)) (by decide)) (by decide) (by decide)).trans ((fA_un hO228 hv244 g218 (hu228.tm k197.2 (by decide)) (by decide) (by decide)).trans (fA_un hO198 hv228 g218 k197.2 (by decide) (by decide)))).trans (fA_of (k := 3) hc200))
                have w290 : fO h264 (h0.length) 4 = (x52 : Int32).toInt := fO_fA (((fA_un hO244 hv264 g218 (hu244.tm (hu228.tm k197.2 (by decide)) (by decide)) (by decide) (by decide)).trans ((fA_un hO228 hv244 g218 (hu228.tm k197.2 (by decide)) (by decide) (by decide)).trans (fA_un hO198 hv228 g218 k197.2 (by decide) (by decide)))).trans (fA_of (k := 4) hc200))
                have w291 : fO h264 (h0.length) 5 = (x21 : Int32).toInt := fO_fA (((fA_un hO244 hv264 g218 (hu244.tm (hu228.tm k197.2 (by decide)) (by decide)) (by decide) (by decide)).trans (fA_un hO228 hv244 g218 (hu228.tm k197.2 (by decide)) (by decide) (by decide))).trans hp226.1)
                have w292 : fO h264 (h0.length) 6 = (x32 : Int32).toInt := fO_fA (((fA_un hO244 hv264 g218 (hu244.tm (hu228.tm k197.2 (by decide)) (by decide)) (by decide) (by decide)).trans (fA_un hO228 hv244 g218 (hu228.tm k197.2 (by decide)) (by decide) (by decide))).trans hp226.2.1)
                have w293 : fO h264 (h0.length) 7 = (x42 : Int32).toInt := fO_fA (((fA_un hO244 hv264 g218 (hu244.tm (hu228.tm k197.2 (by decide)) (by decide)) (by decide) (by decide)).trans (fA_un hO228 hv244 g218 (hu228.tm k197.2 (by decide)) (by decide) (by decide))).trans hp226.2.2)
                exact ur_ret rfl rfl (hQ _ _ ⟨true, rfl, fun _ => by omega, fun e => absurd e (by decide)⟩ hO264 (hu198.tr (hu228.tr (hu244.tr hu264))) (by omega) hp257 w285.1 (fun _ => ⟨h0.length, ⟨w285.2, by omega, w287.trans t64.symm, w288, w289.trans (by decide), w290.trans t54.symm, w291.trans t23.symm, w292.trans t34.symm, w293.trans t44.symm, (fO_fA ((hp260.1 (by omega)).trans (((fA_un hO228 hv244 g218 (hu228.tm k197.2 (by decide)) (by decide) (by decide)).trans (fA_un hO198 hv228 g218 k197.2 (by decide) (by decide))).trans (fA_of (k := 8) hc200)))).trans (by decide)⟩, (hp261.2 (by omega)).trans (((fA_un hO228 hv244 g218 (hu228.tm k197.2 (by decide)) (by decide) (by decide)).trans (fA_un hO198 hv228 g218 k197.2 (by decide) (by decide))).trans (fA_of (k := 9) hc200))⟩) (fun _ z w k => by obtain rfl := wz_u w285.2 w; have x := hp262 (by rw [← fO_eA (show fA h264 (h0.length) 1 = fA h244 (h0.length) 1 from (fA_un hO244 hv264 g218 (hu244.tm (hu228.tm k197.2 (by decide)) (by decide)) (by decide) (by decide)))]; exact k); rw [← fO_eA (show fA h264 (h0.length) 2 = fA h244 (h0.length) 2 from (fA_un hO244 hv264 g218 (hu244.tm (hu228.tm k197.2 (by decide)) (by decide)) (by decide) (by decide)))] at x; exact x) ((((OW3.un hO0 hv198 (by decide)).tr hp227).tr (OW3.un hO228 hv244 (by decide))).tr hp263) (WPs.z (hp243.un hO244 hv264 (by decide))))
              · have t294 := lt_no c192
                refine ur_push rfl ?_
                exact ur_ret rfl rfl (hQ _ _ ⟨false, rfl, fun e => absurd e (by decide), fun _ => by omega⟩ hO0 un.rf (by omega) pre0 KWc.rf (fun q => by exfalso; omega) (fun q => by exfalso; omega) OW3.rf WPs.rf)
            · have t295 := eq_no c190
              refine ur_ldI rfl rfl ?_
              refine ur_push rfl ?_
              refine ur_if2 rfl (fun c296 => ?_) (fun c296 => ?_)
              · have t297 := eq_to c296
                refine ur_ldA rfl rfl ?_
                refine ur_get rfl hc13 rfl ?_
                refine ur_get rfl hc1 rfl ?_
                refine ur_push rfl ?_
                refine ur_if2 rfl (fun c298 => ?_) (fun c298 => ?_)
                · have t299 := lt_to c298
                  refine ur_new rfl (Nat.le_of_ble_eq_true rfl) ?_
                  refine ur_dup rfl rfl ?_
                  refine ur_ldA rfl rfl ?_
                  refine ur_get rfl (hs_ap hc13) rfl ?_
                  refine ur_get rfl (hs_ap hc1) rfl ?_
                  refine ur_ldI rfl rfl ?_
                  refine ur_ldI rfl rfl ?_
                  refine ur_push rfl ?_
                  refine ur_ldI rfl rfl ?_
                  refine ur_inl rfl (rcv_of ap_0) (Nat.le_of_ble_eq_true rfl) (Nat.le_of_ble_eq_true rfl) (sd_newWord hO0 _ _ _ _ _ (by show (0 ≤ f2.toInt ∧ f2.toInt ≤ 149) ∧ (0 ≤ x62.toInt ∧ x62.toInt ≤ 7) ∧ (0 ≤ a1.toInt ∧ a1.toInt ≤ 8) ∧ -1 ≤ ((-1) : Int32).toInt ∧ ((-1) : Int32).toInt ≤ 19; omega) (fun w301 h304 hr302 hO304 hv304 k303 hn307 hx305 => ?_))
                  have hc306 : h304[h0.length]? = some (.inl (10, [.inl f2, .inl x62, .inl a1, .inl (-1), .inl x52, .inl 0, .inl 0, .inl 0, .inl (-1), .inr (.inr none), .inl 0, .inl 0, .inl 0])) := by rw [hx305]; exact ap_0
                  have hu304 : un [16, 45, 46, 2501, 9010, 22005, 22006, 22007, 22008, 22009, 22010, 22011, 22012] h0 h304 := hv304.mono (by decide)
                  subst hr302
                  show uRun _ (uCall Mt _) _ 160 (_, [(.inr (.inr (some h0.length)))], _, _, _)
                  refine ur_svAk [some (.inr (.inr (some 0))), some (.inl a1), some (.inl a2), some (.inl a3), some (.inl x21), some (.inl x32), some (.inl x42), some (.inl x52), some (.inl x62), some (.inr (.inr (some h0.length)))] rfl rfl ?_
                  refine ur_ldA rfl rfl ?_
                  refine ur_ldI rfl rfl ?_
                  refine ur_ldI rfl rfl ?_
                  refine ur_ldI rfl rfl ?_
                  obtain ⟨g324, f309, f310, f311, f312, f313, f314, f315, f316, f317, o321, f318, f319, f320, hc308, k322, k323⟩ := hO304.word k303.2
                  have t325 := fO_keep (a := 15) (ci := 1) (n := 11) (k := 1) hO0 hO304 hv304 (by decide) rfl (by decide) rfl (by decide)
                  have t326 := fO_keep (a := 15) (ci := 1) (n := 11) (k := 2) hO0 hO304 hv304 (by decide) rfl (by decide) rfl (by decide)
                  have t327 := fO_keep (a := 15) (ci := 1) (n := 11) (k := 3) hO0 hO304 hv304 (by decide) rfl (by decide) rfl (by decide)
                  have t328 := fO_keep (a := 15) (ci := 1) (n := 11) (k := 4) hO0 hO304 hv304 (by decide) rfl (by decide) rfl (by decide)
                  refine ur_inl rfl (rcv_of hc308) (Nat.le_of_ble_eq_true rfl) (Nat.le_of_ble_eq_true rfl) (st_X10_dateIt hO304 g324 k303.2 _ _ _ (fun w329 h334 hr330 hO334 hv334 hp331 hp332 hp333 => ?_))
                  have hu334 : un [16, 45, 46, 2501, 9010, 22005, 22006, 22007, 22008, 22009, 22010, 22011, 22012] h304 h334 := hv334.mono (by decide)
                  subst hr330
                  show uRun _ (uCall Mt _) _ 173 (_, [], _, _, _)
                  have t335 := fO_of (k := 1) (hv334.ko (n := 11) (hv304.ko (n := 11) hc1 rfl (wid_f (by decide)) (by decide)) rfl (wid_f (by decide)) (by decide)) rfl
                  have t336 := fO_of (k := 2) (hv334.ko (n := 11) (hv304.ko (n := 11) hc1 rfl (wid_f (by decide)) (by decide)) rfl (wid_f (by decide)) (by decide)) rfl
                  have t337 := fO_of (k := 3) (hv334.ko (n := 11) (hv304.ko (n := 11) hc1 rfl (wid_f (by decide)) (by decide)) rfl (wid_f (by decide)) (by decide)) rfl
                  have t338 := fO_of (k := 4) (hv334.ko (n := 11) (hv304.ko (n := 11) hc1 rfl (wid_f (by decide)) (by decide)) rfl (wid_f (by decide)) (by decide)) rfl
                  refine ur_ldA rfl rfl ?_
                  refine ur_get rfl (hv334.ko (n := 8) (hv304.ko (n := 8) hc13 rfl (wid_f (by decide)) (by decide)) rfl (wid_f (by decide)) (by decide)) rfl ?_
                  obtain ⟨f340, f341, hc339, k342⟩ := ok_41 hO334
                  have t343 := fO_keep (a := 15) (ci := 1) (n := 11) (k := 1) hO304 hO334 hv334 (by decide) rfl (by decide) rfl (by decide)
                  have t344 := fO_keep (a := 15) (ci := 1) (n := 11) (k := 2) hO304 hO334 hv334 (by decide) rfl (by decide) rfl (by decide)
                  have t345 := fO_keep (a := 15) (ci := 1) (n := 11) (k := 3) hO304 hO334 hv334 (by decide) rfl (by decide) rfl (by decide)
                  have t346 := fO_keep (a := 15) (ci := 1) (n := 11) (k := 4) hO304 hO334 hv334 (by decide) rfl (by decide) rfl (by decide)
                  refine ur_inl rfl (rcv_of hc339) (Nat.le_of_ble_eq_true rfl) (Nat.le_of_ble_eq_true rfl) (sz_X7_forgetWeights hO334  (fun w347 h350 hr348 hO350 hv350 hp349 => ?_))
                  have hu350 : un [16, 45, 46, 2501, 9010, 22005, 22006, 22007, 22008, 22009, 22010, 22011, 22012] h334 h350 := hv350.mono (by decide)
                  subst hr348
                  show uRun _ (uCall Mt _) _ 180 (_, [], _, _, _)
                  have t351 := fO_of (k := 1) (hv350.ko (n := 11) (hv334.ko (n := 11) (hv304.ko (n := 11) hc1 rfl (wid_f (by decide)) (by decide)) rfl (wid_f (by decide)) (by decide)) rfl (wid_f (by decide)) (by decide)) rfl
                  have t352 := fO_of (k := 2) (hv350.ko (n := 11) (hv334.ko (n := 11) (hv304.ko (n := 11) hc1 rfl (wid_f (by decide)) (by decide)) rfl (wid_f (by decide)) (by decide)) rfl (wid_f (by decide)) (by decide)) rfl
                  have t353 := fO_of (k := 3) (hv350.ko (n := 11) (hv334.ko (n := 11) (hv304.ko (n := 11) hc1 rfl (wid_f (by decide)) (by decide)) rfl (wid_f (by decide)) (by decide)) rfl (wid_f (by decide)) (by decide)) rfl
                  have t354 := fO_of (k := 4) (hv350.ko (n := 11) (hv334.ko (n := 11) (hv304.ko (n := 11) hc1 rfl (wid_f (by decide)) (by decide)) rfl (wid_f (by decide)) (by decide)) rfl (wid_f (by decide)) (by decide)) rfl
                  refine ur_ldA rfl rfl ?_
                  refine ur_get rfl (hv350.ko (n := 8) (hv334.ko (n := 8) (hv304.ko (n := 8) hc13 rfl (wid_f (by decide)) (by decide)) rfl (wid_f (by decide)) (by decide)) rfl (wid_f (by decide)) (by decide)) rfl ?_
                  refine ur_ldA rfl rfl ?_
                  refine ur_push rfl ?_
                  have k355 : fO h350 h0.length 1 = (x62 : Int32).toInt := ((fO_kw hO334 hO350 hv350 g324 (hu334.tm k303.2 (by decide)) rfl (by decide)).trans ((fO_kw hO304 hO334 hv334 g324 k303.2 rfl (by decide)).trans (fO_of (k := 1) hc306 rfl)))
                  have t356 := fO_keep (a := 15) (ci := 1) (n := 11) (k := 1) hO334 hO350 hv350 (by decide) rfl (by decide) rfl (by decide)
                  have t357 := fO_keep (a := 15) (ci := 1) (n := 11) (k := 2) hO334 hO350 hv350 (by decide) rfl (by decide) rfl (by decide)
                  have t358 := fO_keep (a := 15) (ci := 1) (n := 11) (k := 3) hO334 hO350 hv350 (by decide) rfl (by decide) rfl (by decide)
                  have t359 := fO_keep (a := 15) (ci := 1) (n := 11) (k := 4) hO334 hO350 hv350 (by decide) rfl (by decide) rfl (by decide)
                  refine ur_inl rfl (rcv_of (hv350.ko (n := 11) (hv334.ko (n := 11) (hv304.ko (n := 11) hc1 rfl (wid_f (by decide)) (by decide)) rfl (wid_f (by decide)) (by decide)) rfl (wid_f (by decide)) (by decide))) (Nat.le_of_ble_eq_true rfl) (Nat.le_of_ble_eq_true rfl) (st_X1_addWord hO350 g324 (hu350.tm (hu334.tm k303.2 (by decide)) (by decide)) _ (((pre0.un hO0 hO304 hv304 (by decide) (by decide)).un hO304 hO334 hv334 (by decide) (by decide)).un hO334 hO350 hv350 (by decide) (by decide)) (by omega) (by rw [k355]; omega) (((pre2.un hO0 hO304 hv304 (by decide)).un hO304 hO334 hv334 (by decide)).un hO334 hO350 hv350 (by decide)) (fun w360 h370 hr361 hO370 hv370 hp362 hp363 hp364 hp365 hp366 hp367 hp368 hp369 => ?_))
                  have hu370 : un [16, 45, 46, 2501, 9010, 22005, 22006, 22007, 22008, 22009, 22010, 22011, 22012] h350 h370 := hv370.mono (by decide)
                  obtain ⟨x371, rfl, t372⟩ := hr361
                  show uRun _ (uCall Mt _) _ 190 (_, [(.inl x371)], _, _, _)
                  obtain ⟨f374, f375, f376, f377, hc373, k378⟩ := ok_15 hO370
                  have t379 := fO_of (k := 1) hc373 rfl
                  have t380 := fO_of (k := 2) hc373 rfl
                  have t381 := fO_of (k := 3) hc373 rfl
                  have t382 := fO_of (k := 4) hc373 rfl
                  refine ur_pop rfl rfl ?_
                  refine ur_push rfl ?_
                  have t383 := fO_keep (a := 15) (ci := 1) (n := 11) (k := 2) hO350 hO370 hv370 (by decide) rfl (by decide) rfl (by decide)
                  have t384 := fO_keep (a := 15) (ci := 1) (n := 11) (k := 3) hO350 hO370 hv370 (by decide) rfl (by decide) rfl (by decide)
                  have t385 := fO_keep (a := 15) (ci := 1) (n := 11) (k := 4) hO350 hO370 hv370 (by decide) rfl (by decide) rfl (by decide)
                  have t386 := hv334.nW (by decide)
                  have t387 := hv350.nW (by decide)
                  have t388 := hv370.nW (by decide)
                  have w389 : arR h370 16 = (arR h0 16).set (fO h0 15 1).toNat (some h0.length) := by rw [hp365, show arR h350 16 = arR h0 16 from ((arR_u hO334 hv350 (by decide)).trans ((arR_u hO304 hv334 (by decide)).trans (arR_u hO0 hv304 (by decide)))), show fO h350 15 1 = fO h0 15 1 by omega]
                  have w390 : OWK h0 h370 (h0.length) := ((((OWK.un hO0 hv304 (by decide)).tr hp331).tr (OWK.un hO334 hv350 (by decide))).tr hp364)
                  have w391 := KWc.push hO0 w390 rfl w389 (by omega)
                  have w392 : fO h370 (h0.length) 0 = (f2 : Int32).toInt := fO_fA (((fA_un hO350 hv370 g324 (hu350.tm (hu334.tm k303.2 (by decide)) (by decide)) (by decide) (by decide)).trans ((fA_un hO334 hv350 g324 (hu334.tm k303.2 (by decide)) (by decide) (by decide)).trans (fA_un hO304 hv334 g324 k303.2 (by decide) (by decide)))).trans (fA_of (k := 0) hc306))
                  have w393 : fO h370 (h0.length) 1 = (x62 : Int32).toInt := fO_fA (((fA_un hO350 hv370 g324 (hu350.tm (hu334.tm k303.2 (by decide)) (by decide)) (by decide) (by decide)).trans ((fA_un hO334 hv350 g324 (hu334.tm k303.2 (by decide)) (by decide) (by decide)).trans (fA_un hO304 hv334 g324 k303.2 (by decide) (by decide)))).trans (fA_of (k := 1) hc306))
                  have w394 : fO h370 (h0.length) 2 = (a1 : Int32).toInt := fO_fA (((fA_un hO350 hv370 g324 (hu350.tm (hu334.tm k303.2 (by decide)) (by decide)) (by decide) (by decide)).trans ((fA_un hO334 hv350 g324 (hu334.tm k303.2 (by decide)) (by decide) (by decide)).trans (fA_un hO304 hv334 g324 k303.2 (by decide) (by decide)))).trans (fA_of (k := 2) hc306))
                  have w395 : fO h370 (h0.length) 3 = ((-1) : Int32).toInt := fO_fA (((fA_un hO350 hv370 g324 (hu350.tm (hu334.tm k303.2 (by decide)) (by decide)) (by decide) (by decide)).trans ((fA_un hO334 hv350 g324 (hu334.tm k303.2 (by decide)) (by decide) (by decide)).trans (fA_un hO304 hv334 g324 k303.2 (by decide) (by decide)))).trans (fA_of (k := 3) hc306))
                  have w396 : fO h370 (h0.length) 4 = (x52 : Int32).toInt := fO_fA (((fA_un hO350 hv370 g324 (hu350.tm (hu334.tm k303.2 (by decide)) (by decide)) (by decide) (by decide)).trans ((fA_un hO334 hv350 g324 (hu334.tm k303.2 (by decide)) (by decide) (by decide)).trans (fA_un hO304 hv334 g324 k303.2 (by decide) (by decide)))).trans (fA_of (k := 4) hc306))
                  have w397 : fO h370 (h0.length) 5 = (x21 : Int32).toInt := fO_fA (((fA_un hO350 hv370 g324 (hu350.tm (hu334.tm k303.2 (by decide)) (by decide)) (by decide) (by decide)).trans (fA_un hO334 hv350 g324 (hu334.tm k303.2 (by decide)) (by decide) (by decide))).trans hp332.1)
                  have w398 : fO h370 (h0.length) 6 = (x32 : Int32).toInt := fO_fA (((fA_un hO350 hv370 g324 (hu350.tm (hu334.tm k303.2 (by decide)) (by decide)) (by decide) (by decide)).trans (fA_un hO334 hv350 g324 (hu334.tm k303.2 (by decide)) (by decide) (by decide))).trans hp332.2.1)
                  have w399 : fO h370 (h0.length) 7 = (x42 : Int32).toInt := fO_fA (((fA_un hO350 hv370 g324 (hu350.tm (hu334.tm k303.2 (by decide)) (by decide)) (by decide) (by decide)).trans (fA_un hO334 hv350 g324 (hu334.tm k303.2 (by decide)) (by decide) (by decide))).trans hp332.2.2)
                  exact ur_ret rfl rfl (hQ _ _ ⟨true, rfl, fun _ => by omega, fun e => absurd e (by decide)⟩ hO370 (hu304.tr (hu334.tr (hu350.tr hu370))) (by omega) hp363 w391.1 (fun _ => ⟨h0.length, ⟨w391.2, by omega, w393.trans t64.symm, w394, w395.trans (by decide), w396.trans t54.symm, w397.trans t23.symm, w398.trans t34.symm, w399.trans t44.symm, (fO_fA ((hp366.1 (by omega)).trans (((fA_un hO334 hv350 g324 (hu334.tm k303.2 (by decide)) (by decide) (by decide)).trans (fA_un hO304 hv334 g324 k303.2 (by decide) (by decide))).trans (fA_of (k := 8) hc306)))).trans (by decide)⟩, (hp367.2 (by omega)).trans (((fA_un hO334 hv350 g324 (hu334.tm k303.2 (by decide)) (by decide) (by decide)).trans (fA_un hO304 hv334 g324 k303.2 (by decide) (by decide))).trans (fA_of (k := 9) hc306))⟩) (fun _ z w k => by obtain rfl := wz_u w391.2 w; have x := hp368 (by rw [← fO_eA (show fA h370 (h0.length) 1 = fA h350 (h0.length) 1 from (fA_un hO350 hv370 g324 (hu350.tm (hu334.tm k303.2 (by decide)) (by decide)) (by decide) (by decide)))]; exact k); rw [← fO_eA (show fA h370 (h0.length) 2 = fA h350 (h0.length) 2 from (fA_un hO350 hv370 g324 (hu350.tm (hu334.tm k303.2 (by decide)) (by decide)) (by decide) (by decide)))] at x; exact x) ((((OW3.un hO0 hv304 (by decide)).tr hp333).tr (OW3.un hO334 hv350 (by decide))).tr hp369) (WPs.z (hp349.un hO350 hv370 (by decide))))
                · have t400 := lt_no c298
                  refine ur_push rfl ?_
                  exact ur_ret rfl rfl (hQ _ _ ⟨false, rfl, fun e => absurd e (by decide), fun _ => by omega⟩ hO0 un.rf (by omega) pre0 KWc.rf (fun q => by exfalso; omega) (fun q => by exfalso; omega) OW3.rf WPs.rf)
              · have t401 := eq_no c296
                refine ur_push rfl ?_
                exact ur_ret rfl rfl (hQ _ _ ⟨false, rfl, fun e => absurd e (by decide), fun _ => by omega⟩ hO0 un.rf (by omega) pre0 KWc.rf (fun q => by exfalso; omega) (fun q => by exfalso; omega) OW3.rf WPs.rf)
        · have t402 := wi_noL c82 l_0 l_400
          refine ur_push rfl ?_
          exact ur_ret rfl rfl (hQ _ _ ⟨false, rfl, fun e => absurd e (by decide), fun _ => by omega⟩ hO0 un.rf (by omega) pre0 KWc.rf (fun q => by exfalso; omega) (fun q => by exfalso; omega) OW3.rf WPs.rf)

set_option maxRecDepth 20000 in
set_option maxHeartbeats 4000000 in
theorem sz_X11_words {d kc ks : Nat} {h0 : aH} {Q : Option aV → aH → Prop} {L : Nat → List (List (Int × Int) × List (Int × Int))} (hO0 : OK h0) (a1 : Int32) (a2 : Int32) (a3 : Int32) (a4 : Int32) (pre0 : NA h0) (pre1 : TXF h0 L) (hQ : ∀ r h', (∃ x : Int32, r = some (.inl x) ∧ ((¬ ((0 ≤ a1.toInt ∧ a1.toInt ≤ 8) ∧ (0 ≤ a2.toInt ∧ a2.toInt ≤ 5) ∧ 1 ≤ a4.toInt ∧ a4.toInt ≤ 12) → x.toInt = -1 ∧ fO h' 15 1 = fO h0 15 1) ∧ (((0 ≤ a1.toInt ∧ a1.toInt ≤ 8) ∧ (0 ≤ a2.toInt ∧ a2.toInt ≤ 5) ∧ 1 ≤ a4.toInt ∧ a4.toInt ≤ 12) ∧ gI h0 58 a2.toInt = 0 → x.toInt = 0 ∧ fO h' 15 1 = fO h0 15 1) ∧ (((0 ≤ a1.toInt ∧ a1.toInt ≤ 8) ∧ (0 ≤ a2.toInt ∧ a2.toInt ≤ 5) ∧ 1 ≤ a4.toInt ∧ a4.toInt ≤ 12) ∧ gI h0 58 a2.toInt ≠ 0 ∧ ¬ ((0 ≤ a2.toInt ∧ a2.toInt ≤ 5) ∧ gI h0 58 a2.toInt = 2 ∧ gI h0 60 a2.toInt = 1) → x.toInt = -12 ∧ fO h' 15 1 = fO h0 15 1) ∧ (((0 ≤ a1.toInt ∧ a1.toInt ≤ 8) ∧ (0 ≤ a2.toInt ∧ a2.toInt ≤ 5) ∧ 1 ≤ a4.toInt ∧ a4.toInt ≤ 12) ∧ ((0 ≤ a2.toInt ∧ a2.toInt ≤ 5) ∧ gI h0 58 a2.toInt = 2 ∧ gI h0 60 a2.toInt = 1) → isR (GD h0 a2.toInt a3.toInt a4.toInt (fO h0 15 1)) x.toInt ∧ fO h' 15 1 = fO h0 15 1 + x.toInt))) → OK h' → un [16, 45, 46, 2501, 9010, 22005, 22006, 22007, 22008, 22009, 22010, 22011, 22012] h0 h' → (nW h' ≤ nW h0 + 12) → (NA h') → (KWc h0 h') → (∀ j : Nat, (j : Int) < fO h' 15 1 - fO h0 15 1 → NWR h0 h' a2.toInt a3.toInt (fO h0 15 1) a1.toInt j) → (∀ j : Nat, (j : Int) < fO h' 15 1 - fO h0 15 1 → ∀ z, wz h' (fO h0 15 1 + (j : Int)) z → fO h' z 1 ≠ 3 → SPz h' z (L (fO h' z 2).toNat)) → (∀ (i : Int) z, 0 ≤ i → i < fO h0 15 1 → wz h0 i z → ∀ k, k < 13 → fA h' z k = fA h0 z k) → (WPs h0 h') → Q r h') : uCall Mt (d + 8) 136 [(.inr (.inr (some 0))), (.inl a1), (.inl a2), (.inl a3), (.inl a4)] h0 kc ks Q := by
  have l_m12 : ((-12) : Int32).toInt = -12 := by decide
  have l_m1 : ((-1) : Int32).toInt = -1 := by decide
  have l_0 : ((0) : Int32).toInt = 0 := by decide
  have l_1 : ((1) : Int32).toInt = 1 := by decide
  have l_5 : ((5) : Int32).toInt = 5 := by decide
  have l_8 : ((8) : Int32).toInt = 8 := by decide
  have l_12 : ((12) : Int32).toInt = 12 := by decide
  refine uc_ink [some (.inr (.inr (some 0))), some (.inl a1), some (.inl a2), some (.inl a3), some (.inl a4), none, none] mt_136 (Nat.le_of_ble_eq_true rfl) rfl ?_
  obtain ⟨f2, f3, f4, f5, hc1, k6⟩ := ok_15 hO0
  have t7 := fO_of (k := 1) hc1 rfl
  have t8 := gI61 hO0 a2.toInt
  refine ur_ldI rfl rfl ?_
  refine ur_callv rfl rfl (Nat.le_of_ble_eq_true rfl) (Nat.le_of_ble_eq_true rfl) rfl (sp_isPpl _ _) ?_
  refine ur_eqB rfl (fun c11 => ?_) (fun c11 => ?_)
  · have t12 := wi_noL c11 l_0 l_8
    refine ur_push rfl ?_
    exact ur_ret rfl rfl (hQ _ _ ⟨_, rfl, ⟨fun q => by omega, fun q => by omega, fun q => by omega, fun q => by exfalso; omega⟩⟩ hO0 un.rf (by omega) pre0 KWc.rf (fun j hj => by exfalso; omega) (fun j hj => by exfalso; omega) (fun _ _ _ _ _ _ _ => rfl) WPs.rf)
  · have t13 := wi_toL c11 l_0 l_8
    refine ur_ldA rfl rfl ?_
    obtain ⟨hc14, k15⟩ := ok_0 hO0
    refine ur_get rfl hc14 rfl ?_
    refine ur_ldI rfl rfl ?_
    obtain ⟨hc16, k17⟩ := ok_57 hO0
    refine ur_callv rfl rfl (Nat.le_of_ble_eq_true rfl) (Nat.le_of_ble_eq_true rfl) (rcv_of hc16) (sp_page _ _) ?_
    refine ur_eqB rfl (fun c20 => ?_) (fun c20 => ?_)
    · have t21 := wi_noL c20 l_0 l_5
      refine ur_push rfl ?_
      exact ur_ret rfl rfl (hQ _ _ ⟨_, rfl, ⟨fun q => by omega, fun q => by omega, fun q => by omega, fun q => by exfalso; omega⟩⟩ hO0 un.rf (by omega) pre0 KWc.rf (fun j hj => by exfalso; omega) (fun j hj => by exfalso; omega) (fun _ _ _ _ _ _ _ => rfl) WPs.rf)
    · have t22 := wi_toL c20 l_0 l_5
      refine ur_ldI rfl rfl ?_
      refine ur_push rfl ?_
      refine ur_push rfl ?_
      refine ur_callv rfl rfl (Nat.le_of_ble_eq_true rfl) (Nat.le_of_ble_eq_true rfl) rfl (sp_within _ _ _ _ _) ?_
      refine ur_neB rfl (fun c25 => ?_) (fun c25 => ?_)
      · have t26 := wi_toL c25 l_1 l_12
        refine ur_ldA rfl rfl ?_
        refine ur_get rfl hc14 rfl ?_
        refine ur_ldI rfl rfl ?_
        refine ur_inl rfl (rcv_of hc16) (Nat.le_of_ble_eq_true rfl) (Nat.le_of_ble_eq_true rfl) (sd_X4_isEmpty hO0 _ (fun w27 hr28 => ?_))
        obtain ⟨b29, rfl, t30, t31⟩ := hr28
        show uRun _ (uCall Mt _) _ 39 (_, [(.inl (bi b29))], _, _, _)
        refine ur_eqB rfl (fun c32 => ?_) (fun c32 => ?_)
        · have t33 := t31 c32
          clear t30 t31
          refine ur_ldA rfl rfl ?_
          refine ur_get rfl hc14 rfl ?_
          refine ur_ldI rfl rfl ?_
          refine ur_inl rfl (rcv_of hc16) (Nat.le_of_ble_eq_true rfl) (Nat.le_of_ble_eq_true rfl) (sd_X4_holdsShorts hO0 _ (fun w34 hr35 => ?_))
          obtain ⟨b36, rfl, t37, t38⟩ := hr35
          show uRun _ (uCall Mt _) _ 52 (_, [(.inl (bi b36))], _, _, _)
          refine ur_neB rfl (fun c39 => ?_) (fun c39 => ?_)
          · have t40 := t37 c39
            clear t37 t38
            refine ur_ldI rfl rfl ?_
            refine ur_if1 rfl (fun c41 => ?_) (fun c41 => ?_)
            · have t42 := le_to c41
              refine ur_push rfl ?_
              refine ur_svIk [some (.inr (.inr (some 0))), some (.inl a1), some (.inl a2), some (.inl a3), some (.inl a4), some (.inl 0), none] rfl rfl ?_
              refine ur_ldI rfl rfl ?_
              refine ur_svIk [some (.inr (.inr (some 0))), some (.inl a1), some (.inl a2), some (.inl a3), some (.inl a4), some (.inl 0), some (.inl a3)] rfl rfl ?_
              have L45 : ∀ (m46 : Nat) (x43 : Int32) (x44 : Int32) (h48 : aH) , OK h48 → un [16, 45, 46, 2501, 9010, 22005, 22006, 22007, 22008, 22009, 22010, 22011, 22012] h0 h48 → ((0 ≤ x43.toInt ∧ x43.toInt ≤ 12) ∧ (0 ≤ x44.toInt ∧ x44.toInt ≤ 2147483647) ∧ nW h48 ≤ nW h0 + x43.toInt ∧ fO h48 15 1 = fO h0 15 1 + x43.toInt ∧ x44.toInt = a3.toInt + 5 * x43.toInt) → (NA h48) → (∀ j : Nat, (j : Int) < x43.toInt → GD h0 a2.toInt a3.toInt a4.toInt (fO h0 15 1) j) → (KWc h0 h48) → (∀ j : Nat, (j : Int) < x43.toInt → NWR h0 h48 a2.toInt a3.toInt (fO h0 15 1) a1.toInt j) → (∀ j : Nat, (j : Int) < fO h48 15 1 - fO h0 15 1 → ∀ z, wz h48 (fO h0 15 1 + (j : Int)) z → fO h48 z 1 ≠ 3 → SPz h48 z (L (fO h48 z 2).toNat)) → (∀ (i : Int) z, 0 ≤ i → i < fO h0 15 1 → wz h0 i z → ∀ k, k < 13 → fA h48 z k = fA h0 z k) → (WPs h0 h48) → ((2147483648 - x43.toInt).toNat) < m46 → uRun oX11_words (uCall Mt (d + 7)) Q 70 ([some (.inr (.inr (some 0))), some (.inl a1), some (.inl a2), some (.inl a3), some (.inl a4), some (.inl x43), some (.inl x44)], [], h48, kc, ks) := by
                intro m46
                induction m46 with
                | zero => intro x43 x44 h48 hO48 hu48 iv56 px49 px50 px51 px52 px53 px54 px55 mm57; omega
                | succ m46 ih47 =>
                  intro x43 x44 h48 hO48 hu48 iv56 px49 px50 px51 px52 px53 px54 px55 mm57
                  refine ur_ldI rfl rfl ?_
                  refine ur_ldI rfl rfl ?_
                  have z58 := any_r x43
                  have z59 := any_r a4
                  refine ur_if2 rfl (fun c60 => ?_) (fun c60 => ?_)
                  · have t61 := le_to c60
                    refine ur_ldI rfl rfl ?_
                    obtain ⟨f63, f64, f65, f66, hc62, k67⟩ := ok_15 hO48
                    have t68 := fO_of (k := 1) hc62 rfl
                    exact ur_ret rfl rfl (hQ _ _ ⟨_, rfl, ⟨fun q => absurd (by omega) q, fun q => by exfalso; omega, fun q => by exfalso; omega, fun _ => ⟨⟨by omega, px50, fun q => by unfold GD FOKd at q; rw [show ((x43.toInt.toNat : Nat) : Int) = x43.toInt by omega] at q; omega⟩, by omega⟩⟩⟩ hO48 hu48 (by omega) px49 px51 (fun j hj => px52 j (by omega)) px53 px54 px55)
                  · have t69 := le_no c60
                    have t70 : gI h48 58 a2.toInt = gI h0 58 a2.toInt := gI_keep (a := 58) (kd := 0) (n := 6) hO0 hu48 _ (by decide) rfl (by decide) rfl (by decide) (by decide)
                    have t71 : gI h48 60 a2.toInt = gI h0 60 a2.toInt := gI_keep (a := 60) (kd := 0) (n := 6) hO0 hu48 _ (by decide) rfl (by decide) rfl (by decide) (by decide)
                    have t72 : gI h48 61 a2.toInt = gI h0 61 a2.toInt := gI_keep (a := 61) (kd := 0) (n := 6) hO0 hu48 _ (by decide) rfl (by decide) rfl (by decide) (by decide)
                    refine ur_ldA rfl rfl ?_
                    refine ur_get rfl (hu48.ko (n := 8) hc14 rfl (wid_f (by decide)) (by decide)) rfl ?_
                    refine ur_ldI rfl rfl ?_
                    refine ur_ldI rfl rfl ?_
                    refine ur_inl rfl (rcv_of (hu48.ko (n := 5) hc16 rfl (wid_f (by decide)) (by decide))) (Nat.le_of_ble_eq_true rfl) (Nat.le_of_ble_eq_true rfl) (sd_X4_hasFiveFrom hO48 _ _ (fun w73 hr74 => ?_))
                    obtain ⟨b75, rfl, t76, t77⟩ := hr74
                    show uRun _ (uCall Mt _) _ 87 (_, [(.inl (bi b75))], _, _, _)
                    refine ur_eqB rfl (fun c78 => ?_) (fun c78 => ?_)
                    · have t79 := t77 c78
                      clear t76 t77
                      refine ur_ldI rfl rfl ?_
                      obtain ⟨f81, f82, f83, f84, hc80, k85⟩ := ok_15 hO48
                      have t86 := fO_of (k := 1) hc80 rfl
                      exact ur_ret rfl rfl (hQ _ _ ⟨_, rfl, ⟨fun q => absurd (by omega) q, fun q => by exfalso; omega, fun q => by exfalso; omega, fun _ => ⟨⟨by omega, px50, fun q => by unfold GD FOKd at q; rw [show ((x43.toInt.toNat : Nat) : Int) = x43.toInt by omega] at q; omega⟩, by omega⟩⟩⟩ hO48 hu48 (by omega) px49 px51 (fun j hj => px52 j (by omega)) px53 px54 px55)
                    · have t87 := t76 c78
                      clear t76 t77
                      have t88 : fl h48 (63 + a2.toInt.toNat) (x44.toInt + 0) = fl h0 (63 + a2.toInt.toNat) (a3.toInt + 5 * x43.toInt + 0) := fl_rowk hO0 hu48 (by omega) (by decide) (by omega)
                      have t89 : fl h48 (63 + a2.toInt.toNat) (x44.toInt + 1) = fl h0 (63 + a2.toInt.toNat) (a3.toInt + 5 * x43.toInt + 1) := fl_rowk hO0 hu48 (by omega) (by decide) (by omega)
                      have t90 : fl h48 (63 + a2.toInt.toNat) (x44.toInt + 2) = fl h0 (63 + a2.toInt.toNat) (a3.toInt + 5 * x43.toInt + 2) := fl_rowk hO0 hu48 (by omega) (by decide) (by omega)
                      have t91 : fl h48 (63 + a2.toInt.toNat) (x44.toInt + 3) = fl h0 (63 + a2.toInt.toNat) (a3.toInt + 5 * x43.toInt + 3) := fl_rowk hO0 hu48 (by omega) (by decide) (by omega)
                      have t92 : fl h48 (63 + a2.toInt.toNat) (x44.toInt + 4) = fl h0 (63 + a2.toInt.toNat) (a3.toInt + 5 * x43.toInt + 4) := fl_rowk hO0 hu48 (by omega) (by decide) (by omega)
                      refine ur_ldA rfl rfl ?_
                      refine ur_ldI rfl rfl ?_
                      refine ur_ldI rfl rfl ?_
                      refine ur_ldI rfl rfl ?_
                      obtain ⟨f94, f95, f96, f97, hc93, k98⟩ := ok_15 hO48
                      have t99 := fO_of (k := 1) hc93 rfl
                      have t100 := fO_of (k := 2) hc93 rfl
                      have t101 := fO_of (k := 3) hc93 rfl
                      have t102 := fO_of (k := 4) hc93 rfl
                      refine ur_inl rfl (rcv_of (hu48.ko (n := 8) hc14 rfl (wid_f (by decide)) (by decide))) (Nat.le_of_ble_eq_true rfl) (Nat.le_of_ble_eq_true rfl) (sz_X11_addWordFromRow hO48 _ (by show 0 ≤ a1.toInt ∧ a1.toInt ≤ 8; omega) _ _ px49 (by omega) (pre1.un hO0 hO48 hu48 (by decide)) (fun w103 h112 hr104 hO112 hv112 hp105 hp106 hp107 hp108 hp109 hp110 hp111 => ?_))
                      have hu112 := hv112
                      obtain ⟨b113, rfl, t114, t115⟩ := hr104
                      show uRun _ (uCall Mt _) _ 98 (_, [(.inl (bi b113))], _, _, _)
                      obtain ⟨f117, f118, f119, f120, hc116, k121⟩ := ok_15 hO112
                      have t122 := fO_of (k := 1) hc116 rfl
                      refine ur_neB rfl (fun c123 => ?_) (fun c123 => ?_)
                      · have t124 := t114 c123
                        clear t114 t115
                        refine ur_incV (fun z => [some (.inr (.inr (some 0))), some (.inl a1), some (.inl a2), some (.inl a3), some (.inl a4), some (.inl z), some (.inl x44)]) rfl rfl (fun _ => rfl) (fun x125 e126 => ?_)
                        have t127 := ti_add e126 (by omega) (by omega)
                        have t128 : 0 ≤ x44.toInt ∧ x44.toInt ≤ 55 := by omega
                        refine ur_incV (fun z => [some (.inr (.inr (some 0))), some (.inl a1), some (.inl a2), some (.inl a3), some (.inl a4), some (.inl x125), some (.inl z)]) rfl rfl (fun _ => rfl) (fun x129 e130 => ?_)
                        have z131 := any_r x44
                        have t132 := ti_add e130 (by omega) (by omega)
                        refine ur_go rfl ?_
                        have z133 := any_r x125
                        have z134 := any_r x129
                        exact ih47 x125 x129 _ hO112 (hu48.tr hu112) (by omega) hp106 (fun j hj => by by_cases q : (j : Int) < x43.toInt; exact px50 j q; have e : (j : Int) = x43.toInt := (by omega); unfold GD FOKd; rw [e]; omega) (px51.tr hp107 (by omega)) (fun j hj => by by_cases q : (j : Int) < x43.toInt; exact (px52 j q).k hp107 (by omega) (by omega); have e : (j : Int) = x43.toInt := (by omega); obtain ⟨z, w, f⟩ := hp108 (by omega); exact ⟨z, w.c (by omega) (by rw [e]; exact t92.symm) rfl rfl (by rw [e]; exact t91.symm) (by rw [e]; exact t88.symm) (by rw [e]; exact t89.symm) (by rw [e]; exact t90.symm) rfl, f⟩) (NS.s hO48 px49 px53 hp110 hp109 hp107 (arI_keep (a := 17) (kd := 0) (n := 20) hO48 hv112 (by decide) rfl (by decide) rfl (by decide) (by decide)) (arI_keep (a := 18) (kd := 0) (n := 20) hO48 hv112 (by decide) rfl (by decide) rfl (by decide) (by decide)) (by omega) (by omega) (by omega)) (OWs.s hO0 hO48 px54 hp110 px51 (by omega)) (px55.tr hp111) (by omega)
                      · have t135 := t115 c123
                        clear t114 t115
                        refine ur_go rfl ?_
                        refine ur_ldI rfl rfl ?_
                        exact ur_ret rfl rfl (hQ _ _ ⟨_, rfl, ⟨fun q => absurd (by omega) q, fun q => by exfalso; omega, fun q => by exfalso; omega, fun _ => ⟨⟨by omega, px50, fun q => by unfold GD FOKd at q; rw [show ((x43.toInt.toNat : Nat) : Int) = x43.toInt by omega] at q; omega⟩, by omega⟩⟩⟩ hO112 (hu48.tr hu112) (by omega) hp106 (px51.tr hp107 (by omega)) (fun j hj => (px52 j (by omega)).k hp107 (by omega) (by omega)) (NS.s hO48 px49 px53 hp110 hp109 hp107 (arI_keep (a := 17) (kd := 0) (n := 20) hO48 hv112 (by decide) rfl (by decide) rfl (by decide) (by decide)) (arI_keep (a := 18) (kd := 0) (n := 20) hO48 hv112 (by decide) rfl (by decide) rfl (by decide) (by decide)) (by omega) (by omega) (by omega)) (OWs.s hO0 hO48 px54 hp110 px51 (by omega)) (px55.tr hp111))
              have z136 := any_r a3
              exact L45 _ 0 a3 _ hO0 un.rf (by omega) pre0 (fun j hj => by exfalso; omega) KWc.rf (fun j hj => by exfalso; omega) (fun j hj => by exfalso; omega) (fun _ _ _ _ _ _ _ => rfl) WPs.rf (Nat.lt_succ_self _)
            · have t137 := le_no c41
              refine ur_push rfl ?_
              exact ur_ret rfl rfl (hQ _ _ ⟨_, rfl, ⟨fun q => absurd (by omega) q, fun q => by exfalso; omega, fun q => by exfalso; omega, fun _ => ⟨⟨by omega, fun j hj => by exfalso; omega, fun q => by unfold GD at q; rw [show ((((0 : Int32).toInt.toNat : Nat) : Int)) = 0 by omega] at q; omega⟩, by omega⟩⟩⟩ hO0 un.rf (by omega) pre0 KWc.rf (fun j hj => by exfalso; omega) (fun j hj => by exfalso; omega) (fun _ _ _ _ _ _ _ => rfl) WPs.rf)
          · have t138 := t38 c39
            clear t37 t38
            refine ur_push rfl ?_
            exact ur_ret rfl rfl (hQ _ _ ⟨_, rfl, ⟨fun q => by omega, fun q => by omega, fun q => by omega, fun q => by exfalso; omega⟩⟩ hO0 un.rf (by omega) pre0 KWc.rf (fun j hj => by exfalso; omega) (fun j hj => by exfalso; omega) (fun _ _ _ _ _ _ _ => rfl) WPs.rf)
        · have t139 := t30 c32
          clear t30 t31
          refine ur_push rfl ?_
          exact ur_ret rfl rfl (hQ _ _ ⟨_, rfl, ⟨fun q => by omega, fun q => by omega, fun q => by omega, fun q => by exfalso; omega⟩⟩ hO0 un.rf (by omega) pre0 KWc.rf (fun j hj => by exfalso; omega) (fun j hj => by exfalso; omega) (fun _ _ _ _ _ _ _ => rfl) WPs.rf)
      · have t140 := wi_noL c25 l_1 l_12
        refine ur_push rfl ?_
        exact ur_ret rfl rfl (hQ _ _ ⟨_, rfl, ⟨fun q => by omega, fun q => by omega, fun q => by omega, fun q => by exfalso; omega⟩⟩ hO0 un.rf (by omega) pre0 KWc.rf (fun j hj => by exfalso; omega) (fun j hj => by exfalso; omega) (fun _ _ _ _ _ _ _ => rfl) WPs.rf)


end WSC2
