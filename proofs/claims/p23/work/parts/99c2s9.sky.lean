/-! THE SKY: answers; printed by program -/
section SKY9
theorem SKm.o79 {h h' : aH} (g : SKm h) (o : ∀ b, b ≠ 79 → h'[b]? = h[b]?) : SKm h' := by
  have k : ∀ b, b ≠ 79 → gI h' b = gI h b := fun b hb => gI_f (o b hb)
  have n : ∀ q, fI h' q = fI h q := fun q => by
    unfold fI
    rw [o 69 (by decide)]
  have e : SKm h' = SKm h := by
    unfold SKm RPm CMm NMh rwM
    rw [k 70 (by decide), k 71 (by decide), k 72 (by decide), k 73 (by decide), k 74 (by decide), k 75 (by decide), k 76 (by decide), k 77 (by decide), k 78 (by decide), k 80 (by decide), k 81 (by decide), n 1, n 4]
  rw [e]
  exact g
theorem gI_f9 {W : List Nat} {h h' : aH} {a n : Nat} (hO : OK h) (g : un W h h') (ha : a < 114) (ht : T0.getD a (999, 0) = (0, n)) (hw : a ∉ W) (hs : scA a = false := by rfl) (hm : (0, n) ∉ meM := by decide) : gI h' a = gI h a := funext fun j => gI_keep (kd := 0) (n := n) hO g j ha ht (by decide) hs hm hw
set_option maxRecDepth 20000 in
set_option maxHeartbeats 4000000 in
theorem sd_X6_wideOf {d kc ks : Nat} {h0 : aH} {Q : Option aV → aH → Prop} (hO0 : OK h0) (a1 : Int32) (b1 : -60 ≤ a1.toInt ∧ a1.toInt ≤ 60) (hQ : ∀ r, (∃ x : Int32, r = some (.inl x) ∧ (∃ u v : Int32, x = u * v ∧ ((0 ≤ a1.toInt → u.toInt = a1.toInt) ∧ (a1.toInt < 0 → u.toInt = -a1.toInt)) ∧ SAr (gI h0 3) (fO h0 1 2) v.toInt)) → Q r h0) : uCall Mt (d + 1) 62 [(.inr (.inr (some 1))), (.inl a1)] h0 kc ks Q := by
  have l_0 : ((0) : Int32).toInt = 0 := by decide
  have l_1 : ((1) : Int32).toInt = 1 := by decide
  refine uc_ink [some (.inr (.inr (some 1))), some (.inl a1), none, none] mt_62 (Nat.le_of_ble_eq_true rfl) rfl ?_
  obtain ⟨f2, f3, hc1, k4⟩ := ok_1 hO0
  have t5 := fO_of (k := 2) hc1 rfl
  refine ur_push rfl ?_
  refine ur_svIk [some (.inr (.inr (some 1))), some (.inl a1), some (.inl 0), none] rfl rfl ?_
  refine ur_push rfl ?_
  refine ur_svIk [some (.inr (.inr (some 1))), some (.inl a1), some (.inl 0), some (.inl 0)] rfl rfl ?_
  have L8 : ∀ (m9 : Nat) (x6 : Int32) (x7 : Int32) , ((0 ≤ x6.toInt ∧ x6.toInt ≤ 240) ∧ (0 ≤ x7.toInt ∧ x7.toInt ≤ 4) ∧ x6.toInt ≤ 60 * x7.toInt ∧ x7.toInt ≤ fO h0 1 2) → (SAr (gI h0 3) x7.toInt x6.toInt) → ((5 - x7.toInt).toNat) < m9 → uRun oX6_wideOf (uCall Mt (d + 0)) Q 4 ([some (.inr (.inr (some 1))), some (.inl a1), some (.inl x6), some (.inl x7)], [], h0, kc, ks) := by
    intro m9
    induction m9 with
    | zero => intro x6 x7 iv12 px11 mm13; omega
    | succ m9 ih10 =>
      intro x6 x7 iv12 px11 mm13
      refine ur_ldI rfl rfl ?_
      refine ur_ldA rfl rfl ?_
      refine ur_get rfl hc1 rfl ?_
      have z14 := any_r x7
      have z15 := any_r f2
      refine ur_if2 rfl (fun c16 => ?_) (fun c16 => ?_)
      · have t17 := le_to c16
        refine ur_ldI rfl rfl ?_
        refine ur_absV rfl (by show ¬ 9 ≤ 1; decide) (fun x18 t19 e20 => ?_)
        have t21 := t19 (by omega)
        clear t19
        refine ur_ldI rfl rfl ?_
        refine ur_binV rfl (fun x22 e23 => ?_)
        have z24 := any_r x18
        have z25 := any_r x6
        have t26 := ti_mulB (b := 60) (d := 240) e23 (by omega) (by omega) (by decide)
        exact ur_ret rfl rfl (hQ _ ⟨_, rfl, ⟨x18, x6, e23.symm, ⟨fun q => by omega, fun q => by omega⟩, SA_e px11 (by omega) rfl⟩⟩ )
      · have t27 := le_no c16
        refine ur_ldI rfl rfl ?_
        refine ur_ldA rfl rfl ?_
        refine ur_get rfl hc1 rfl ?_
        refine ur_ldI rfl rfl ?_
        obtain ⟨xs29, hc28, hn30, he31⟩ := hO0.int (hO0.fix 3 (by decide) rfl)
        refine ur_aldV rfl hc28 hn30 (by omega) (fun x32 hx33 => ?_)
        have t34 := gI_of (j := x7) hc28 hx33
        have t35 : 0 ≤ x32.toInt ∧ x32.toInt ≤ 60 := he31 _ _ hx33
        refine ur_binV rfl (fun x36 e37 => ?_)
        have z38 := any_r x6
        have z39 := any_r x32
        have t40 := ti_add e37 (by omega) (by omega)
        refine ur_svIk [some (.inr (.inr (some 1))), some (.inl a1), some (.inl x36), some (.inl x7)] rfl rfl ?_
        refine ur_incV (fun z => [some (.inr (.inr (some 1))), some (.inl a1), some (.inl x36), some (.inl z)]) rfl rfl (fun _ => rfl) (fun x41 e42 => ?_)
        have t43 := ti_add e42 (by omega) (by omega)
        refine ur_go rfl ?_
        have z44 := any_r x36
        have z45 := any_r x41
        exact ih10 x36 x41 (by omega) (SA_s (p := x32.toInt) px11 (by omega) (by omega) (by omega)) (by omega)
  exact L8 _ 0 0 (by omega) (SA_0 (by omega) (by omega)) (Nat.lt_succ_self _)

set_option maxRecDepth 20000 in
set_option maxHeartbeats 4000000 in
theorem sd_X12_wideOf {d kc ks : Nat} {h0 : aH} {Q : Option aV → aH → Prop} (hO0 : OK h0) (a1 : Int32) (b1 : -60 ≤ a1.toInt ∧ a1.toInt ≤ 60) (pre0 : RPm h0) (hQ : ∀ r, (∃ x : Int32, r = some (.inl x) ∧ (∃ u v : Int32, x = u * v ∧ ((0 ≤ a1.toInt → u.toInt = a1.toInt) ∧ (a1.toInt < 0 → u.toInt = -a1.toInt)) ∧ SAr (gI h0 71) (fI h0 1) v.toInt)) → Q r h0) : uCall Mt (d + 2) 201 [(.inr (.inr (some 69))), (.inl a1)] h0 kc ks Q := by
  refine uc_ink [some (.inr (.inr (some 69))), some (.inl a1)] mt_201 (Nat.le_of_ble_eq_true rfl) rfl ?_
  obtain ⟨fs1, hc2⟩ := hO0.mod
  obtain ⟨f3, p4, t5⟩ := mf_1 hO0 hc2
  have t6 := fI_of hc2 p4
  refine ur_ldI rfl rfl ?_
  refine ur_inl rfl rfl (Nat.le_of_ble_eq_true rfl) (Nat.le_of_ble_eq_true rfl) (sf_X12_sizeOf _ (fun w7 hr8 => ?_))
  obtain ⟨x9, rfl, t10⟩ := hr8
  show uRun _ (uCall Mt _) _ 4 (_, [(.inl x9)], _, _, _)
  have t11 : 0 ≤ x9.toInt ∧ x9.toInt ≤ 60 := by omega
  refine ur_ldA rfl rfl ?_
  refine ur_inl rfl (rcv_of hc2) (Nat.le_of_ble_eq_true rfl) (Nat.le_of_ble_eq_true rfl) (sd_X12_pullsInAll hO0 pre0 (fun w12 hr13 => ?_))
  obtain ⟨x14, rfl, f15⟩ := hr13
  show uRun _ (uCall Mt _) _ 8 (_, [(.inl x14), (.inl x9)], _, _, _)
  refine ur_binV rfl (fun x16 e17 => ?_)
  have z18 := any_r x9
  have z19 := any_r x14
  have t20 := ti_mulB (b := 60) (d := 240) e17 (by omega) (by omega) (by decide)
  exact ur_ret rfl rfl (hQ _ ⟨_, rfl, ⟨x9, x14, e17.symm, ⟨fun q => by omega, fun q => by omega⟩, f15.1⟩⟩ )

set_option maxRecDepth 20000 in
set_option maxHeartbeats 4000000 in
theorem sd_X11_pass {d kc ks : Nat} {h0 : aH} {Q : Option aV → aH → Prop} (hO0 : OK h0) (a1 : Int32) (a2 : Int32) (a3 : Int32) (pre0 : SKc h0) (hQ : ∀ r, (∃ x : Int32, r = some (.inl x) ∧ ((¬ ((0 ≤ a1.toInt ∧ a1.toInt < fO h0 1 4) ∧ (-60 ≤ a2.toInt ∧ a2.toInt ≤ 60) ∧ 0 ≤ a3.toInt ∧ a3.toInt ≤ 1) → x.toInt = -1) ∧ (((0 ≤ a1.toInt ∧ a1.toInt < fO h0 1 4) ∧ (-60 ≤ a2.toInt ∧ a2.toInt ≤ 60) ∧ 0 ≤ a3.toInt ∧ a3.toInt ≤ 1) → ∃ z, cz h0 a1.toInt z ∧ (¬ (fO h0 z 8 ≤ a2.toInt ∧ a2.toInt ≤ fO h0 z 9) → x.toInt = -2) ∧ ((fO h0 z 8 ≤ a2.toInt ∧ a2.toInt ≤ fO h0 z 9) → (a3.toInt = 0 → x.toInt = cf h0 z a2.toInt) ∧ (a3.toInt = 1 → ∃ u v : Int32, x = u * v ∧ ((0 ≤ a2.toInt → u.toInt = a2.toInt) ∧ (a2.toInt < 0 → u.toInt = -a2.toInt)) ∧ SAr (gI h0 3) (fO h0 1 2) v.toInt))))) → Q r h0) : uCall Mt (d + 4) 127 [(.inr (.inr (some 0))), (.inl a1), (.inl a2), (.inl a3)] h0 kc ks Q := by
  have l_m60 : ((-60) : Int32).toInt = -60 := by decide
  have l_m2 : ((-2) : Int32).toInt = -2 := by decide
  have l_m1 : ((-1) : Int32).toInt = -1 := by decide
  have l_0 : ((0) : Int32).toInt = 0 := by decide
  have l_1 : ((1) : Int32).toInt = 1 := by decide
  have l_60 : ((60) : Int32).toInt = 60 := by decide
  refine uc_ink [some (.inr (.inr (some 0))), some (.inl a1), some (.inl a2), some (.inl a3), none] mt_127 (Nat.le_of_ble_eq_true rfl) rfl ?_
  obtain ⟨f2, f3, hc1, k4⟩ := ok_1 hO0
  have t5 := fO_of (k := 4) hc1 rfl
  refine ur_ldA rfl rfl ?_
  obtain ⟨hc6, k7⟩ := ok_0 hO0
  refine ur_get rfl hc6 rfl ?_
  refine ur_ldI rfl rfl ?_
  refine ur_inl rfl (rcv_of hc1) (Nat.le_of_ble_eq_true rfl) (Nat.le_of_ble_eq_true rfl) (sd_X6_cometAt hO0 _ pre0 (fun w8 hr9 => ?_))
  obtain ⟨o10, rfl, k11, t12, t13⟩ := hr9
  show uRun _ (uCall Mt _) _ 8 (_, [(.inr (.inr o10))], _, _, _)
  refine ur_svAk [some (.inr (.inr (some 0))), some (.inl a1), some (.inl a2), some (.inl a3), some (.inr (.inr o10))] rfl rfl ?_
  refine ur_ldA rfl rfl ?_
  cases o10 with
  | none =>
    refine ur_nulN rfl ?_
    have t15 := t12 rfl
    refine ur_push rfl ?_
    exact ur_ret rfl rfl (hQ _ ⟨_, rfl, ⟨fun _ => by omega, fun q => by exfalso; omega⟩⟩ )
  | some r14 =>
    refine ur_nulS rfl ?_
    have k16 := k11 _ rfl
    have t17 := t13 _ rfl
    refine ur_ldI rfl rfl ?_
    refine ur_callv rfl rfl (Nat.le_of_ble_eq_true rfl) (Nat.le_of_ble_eq_true rfl) rfl (sp_isRet _ _) ?_
    refine ur_eqB rfl (fun c20 => ?_) (fun c20 => ?_)
    · have t21 := wi_noL c20 l_m60 l_60
      refine ur_push rfl ?_
      exact ur_ret rfl rfl (hQ _ ⟨_, rfl, ⟨fun _ => by omega, fun q => by exfalso; omega⟩⟩ )
    · have t22 := wi_toL c20 l_m60 l_60
      refine ur_ldI rfl rfl ?_
      refine ur_push rfl ?_
      refine ur_push rfl ?_
      refine ur_callv rfl rfl (Nat.le_of_ble_eq_true rfl) (Nat.le_of_ble_eq_true rfl) rfl (sp_within _ _ _ _ _) ?_
      refine ur_neB rfl (fun c25 => ?_) (fun c25 => ?_)
      · have t26 := wi_toL c25 l_0 l_1
        obtain ⟨g47, f28, f29, f30, f31, f32, f33, f34, f35, f36, f37, q38, q39, o40, q41, hc27, k42, k43, k44, k45, k46⟩ := hO0.comet k16.2
        have t48 := fO_of (k := 8) hc27 rfl
        have t49 := fO_of (k := 9) hc27 rfl
        refine ur_ldA rfl rfl ?_
        refine ur_ldI rfl rfl ?_
        refine ur_inl rfl (rcv_of hc27) (Nat.le_of_ble_eq_true rfl) (Nat.le_of_ble_eq_true rfl) (sd_X2_hasReturn hO0 g47 k16.2 _ (fun w50 hr51 => ?_))
        obtain ⟨b52, rfl, t53, t54⟩ := hr51
        show uRun _ (uCall Mt _) _ 39 (_, [(.inl (bi b52))], _, _, _)
        refine ur_neB rfl (fun c55 => ?_) (fun c55 => ?_)
        · have t56 := t53 c55
          clear t53 t54
          refine ur_ldI rfl rfl ?_
          refine ur_if1 rfl (fun c57 => ?_) (fun c57 => ?_)
          · have t58 := ne_to c57
            refine ur_ldA rfl rfl ?_
            refine ur_get rfl hc6 rfl ?_
            refine ur_ldI rfl rfl ?_
            have t59 := fO_of (k := 2) hc1 rfl
            refine ur_inl rfl (rcv_of hc1) (Nat.le_of_ble_eq_true rfl) (Nat.le_of_ble_eq_true rfl) (sd_X6_wideOf hO0 _ (by show -60 ≤ a2.toInt ∧ a2.toInt ≤ 60; omega) (fun w60 hr61 => ?_))
            obtain ⟨x62, rfl, f63⟩ := hr61
            show uRun _ (uCall Mt _) _ 66 (_, [(.inl x62)], _, _, _)
            exact ur_ret rfl rfl (hQ _ ⟨_, rfl, ⟨fun q => absurd (by omega) q, fun _ => ⟨r14, t17.2, fun q => absurd (by omega) q, fun _ => ⟨fun q => by exfalso; omega, fun _ => f63⟩⟩⟩⟩ )
          · have t64 := ne_no c57
            refine ur_ldA rfl rfl ?_
            refine ur_ldI rfl rfl ?_
            refine ur_inl rfl (rcv_of hc27) (Nat.le_of_ble_eq_true rfl) (Nat.le_of_ble_eq_true rfl) (sd_X2_passOf hO0 g47 k16.2 _ (by show -60 ≤ a2.toInt ∧ a2.toInt ≤ 60; omega) (fun w65 hr66 => ?_))
            obtain ⟨x67, rfl, f68⟩ := hr66
            show uRun _ (uCall Mt _) _ 55 (_, [(.inl x67)], _, _, _)
            refine ur_go rfl ?_
            exact ur_ret rfl rfl (hQ _ ⟨_, rfl, ⟨fun q => absurd (by omega) q, fun _ => ⟨r14, t17.2, fun q => absurd (by omega) q, fun _ => ⟨fun _ => by unfold cf; rw [if_pos (by omega)]; exact f68, fun q => by exfalso; omega⟩⟩⟩⟩ )
        · have t69 := t54 c55
          clear t53 t54
          refine ur_push rfl ?_
          exact ur_ret rfl rfl (hQ _ ⟨_, rfl, ⟨fun q => absurd (by omega) q, fun _ => ⟨r14, t17.2, fun _ => by omega, fun q => by exfalso; omega⟩⟩⟩ )
      · have t70 := wi_noL c25 l_0 l_1
        refine ur_push rfl ?_
        exact ur_ret rfl rfl (hQ _ ⟨_, rfl, ⟨fun _ => by omega, fun q => by exfalso; omega⟩⟩ )

set_option maxRecDepth 20000 in
set_option maxHeartbeats 4000000 in
theorem sd_X12_isComet {d kc ks : Nat} {h0 : aH} {Q : Option aV → aH → Prop} (hO0 : OK h0) (a1 : Int32) (hQ : ∀ r, (∃ q, r = some (.inl (bi q)) ∧ (q = true → (0 ≤ a1.toInt ∧ a1.toInt < fI h0 4)) ∧ (q = false → ¬ (0 ≤ a1.toInt ∧ a1.toInt < fI h0 4))) → Q r h0) : uCall Mt (d + 2) 187 [(.inr (.inr (some 69))), (.inl a1)] h0 kc ks Q := by
  have l_0 : ((0) : Int32).toInt = 0 := by decide
  have l_1 : ((1) : Int32).toInt = 1 := by decide
  refine uc_ink [some (.inr (.inr (some 69))), some (.inl a1)] mt_187 (Nat.le_of_ble_eq_true rfl) rfl ?_
  obtain ⟨fs1, hc2⟩ := hO0.mod
  obtain ⟨f3, p4, t5⟩ := mf_4 hO0 hc2
  have t6 := fI_of hc2 p4
  refine ur_ldI rfl rfl ?_
  refine ur_push rfl ?_
  refine ur_ldA rfl rfl ?_
  refine ur_get rfl hc2 p4 ?_
  refine ur_push rfl ?_
  refine ur_binV rfl (fun x7 e8 => ?_)
  have z9 := any_r f3
  have t10 := ti_sub e8 (by omega) (by omega)
  refine ur_callv rfl rfl (Nat.le_of_ble_eq_true rfl) (Nat.le_of_ble_eq_true rfl) rfl (sp_in _ _ _ _ _) ?_
  exact ur_ret rfl (bi_ret _) (hQ _ ⟨_, rfl, fun w => by have w := wi_to w; omega, fun w => by have w := wi_no w; omega⟩ )

set_option maxRecDepth 20000 in
set_option maxHeartbeats 4000000 in
theorem sd_X12_pass {d kc ks : Nat} {h0 : aH} {Q : Option aV → aH → Prop} (hO0 : OK h0) (hX0 : SX h0) (a1 : Int32) (a2 : Int32) (a3 : Int32) (pre0 : SKm h0) (hQ : ∀ r h', (∃ x : Int32, r = some (.inl x) ∧ ((¬ ((0 ≤ a1.toInt ∧ a1.toInt < fI h0 4) ∧ (-60 ≤ a2.toInt ∧ a2.toInt ≤ 60) ∧ 0 ≤ a3.toInt ∧ a3.toInt ≤ 1) → x.toInt = -1) ∧ (((0 ≤ a1.toInt ∧ a1.toInt < fI h0 4) ∧ (-60 ≤ a2.toInt ∧ a2.toInt ≤ 60) ∧ 0 ≤ a3.toInt ∧ a3.toInt ≤ 1) → ∃ t, retV (NMh h0 (gI h0 73 a1.toInt)) (gI h0 73 a1.toInt) (gI h0 72 a1.toInt) a2.toInt t ∧ (t < 0 → x.toInt = -2) ∧ (0 ≤ t → (a3.toInt = 0 → x.toInt = t) ∧ (a3.toInt = 1 → ∃ u v : Int32, x = u * v ∧ ((0 ≤ a2.toInt → u.toInt = a2.toInt) ∧ (a2.toInt < 0 → u.toInt = -a2.toInt)) ∧ SAr (gI h0 71) (fI h0 1) v.toInt))))) → OK h' → un [80, 81] h0 h' → (SKm h') → Q r h') : uCall Mt (d + 5) 202 [(.inr (.inr (some 69))), (.inl a1), (.inl a2), (.inl a3)] h0 kc ks Q := by
  have l_m60 : ((-60) : Int32).toInt = -60 := by decide
  have l_m2 : ((-2) : Int32).toInt = -2 := by decide
  have l_m1 : ((-1) : Int32).toInt = -1 := by decide
  have l_0 : ((0) : Int32).toInt = 0 := by decide
  have l_1 : ((1) : Int32).toInt = 1 := by decide
  have l_60 : ((60) : Int32).toInt = 60 := by decide
  refine uc_ink [some (.inr (.inr (some 69))), some (.inl a1), some (.inl a2), some (.inl a3), none] mt_202 (Nat.le_of_ble_eq_true rfl) rfl ?_
  obtain ⟨fs1, hc2⟩ := hO0.mod
  obtain ⟨f3, p4, t5⟩ := mf_4 hO0 hc2
  have t6 := fI_of hc2 p4
  refine ur_ldA rfl rfl ?_
  refine ur_ldI rfl rfl ?_
  refine ur_inl rfl (rcv_of hc2) (Nat.le_of_ble_eq_true rfl) (Nat.le_of_ble_eq_true rfl) (sd_X12_isComet hO0 _ (fun w7 hr8 => ?_))
  obtain ⟨b9, rfl, t10, t11⟩ := hr8
  show uRun _ (uCall Mt _) _ 5 (_, [(.inl (bi b9))], _, _, _)
  refine ur_eqB rfl (fun c12 => ?_) (fun c12 => ?_)
  · have t13 := t11 c12
    clear t10 t11
    refine ur_push rfl ?_
    exact ur_ret rfl rfl (hQ _ _ ⟨_, rfl, ⟨fun _ => by omega, fun q => by exfalso; omega⟩⟩ hO0 un.rf pre0)
  · have t14 := t10 c12
    clear t10 t11
    refine ur_ldI rfl rfl ?_
    refine ur_callv rfl rfl (Nat.le_of_ble_eq_true rfl) (Nat.le_of_ble_eq_true rfl) rfl (sq_isRet _ _) ?_
    refine ur_eqB rfl (fun c17 => ?_) (fun c17 => ?_)
    · have t18 := wi_noL c17 l_m60 l_60
      refine ur_push rfl ?_
      exact ur_ret rfl rfl (hQ _ _ ⟨_, rfl, ⟨fun _ => by omega, fun q => by exfalso; omega⟩⟩ hO0 un.rf pre0)
    · have t19 := wi_toL c17 l_m60 l_60
      refine ur_ldI rfl rfl ?_
      refine ur_push rfl ?_
      refine ur_push rfl ?_
      refine ur_callv rfl rfl (Nat.le_of_ble_eq_true rfl) (Nat.le_of_ble_eq_true rfl) rfl (sp_in _ _ _ _ _) ?_
      refine ur_neB rfl (fun c22 => ?_) (fun c22 => ?_)
      · have t23 := wi_toL c22 l_0 l_1
        refine ur_ldA rfl rfl ?_
        refine ur_ldI rfl rfl ?_
        refine ur_ldI rfl rfl ?_
        refine ur_inl rfl (rcv_of hc2) (Nat.le_of_ble_eq_true rfl) (Nat.le_of_ble_eq_true rfl) (sd_X12_passOf hO0 hX0 _ (by show 0 ≤ a1.toInt ∧ a1.toInt ≤ 11; omega) _ (by show -60 ≤ a2.toInt ∧ a2.toInt ≤ 60; omega) pre0 (by omega) (fun w24 h27 hr25 hO27 hv27 hp26 => ?_))
        have hu27 := hv27
        obtain ⟨x28, rfl, f29⟩ := hr25
        show uRun _ (uCall Mt _) _ 32 (_, [(.inl x28)], _, _, _)
        refine ur_svIk [some (.inr (.inr (some 69))), some (.inl a1), some (.inl a2), some (.inl a3), some (.inl x28)] rfl rfl ?_
        refine ur_ldI rfl rfl ?_
        refine ur_if1 rfl (fun c30 => ?_) (fun c30 => ?_)
        · have t31 := le_to c30
          refine ur_ldI rfl rfl ?_
          refine ur_if1 rfl (fun c32 => ?_) (fun c32 => ?_)
          · have t33 := ne_to c32
            refine ur_ldA rfl rfl ?_
            refine ur_ldI rfl rfl ?_
            obtain ⟨fs34, hc35⟩ := hO27.mod
            obtain ⟨f36, p37, t38⟩ := mf_1 hO27 hc35
            have t39 := fI_of hc35 p37
            have t40 := fI_keep (k := 4) hO0 hO27 hu27 rfl (by decide)
            refine ur_inl rfl (rcv_of hc35) (Nat.le_of_ble_eq_true rfl) (Nat.le_of_ble_eq_true rfl) (sd_X12_wideOf hO27 _ (by show -60 ≤ a2.toInt ∧ a2.toInt ≤ 60; omega) (hp26).1 (fun w41 hr42 => ?_))
            obtain ⟨x43, rfl, f44⟩ := hr42
            show uRun _ (uCall Mt _) _ 58 (_, [(.inl x43)], _, _, _)
            obtain ⟨f45, p46, t47⟩ := mf_4 hO27 hc35
            have t48 := fI_of hc35 p46
            exact ur_ret rfl rfl (hQ _ _ ⟨_, rfl, ⟨fun q => absurd (by omega) q, fun _ => ⟨x28.toInt, f29.1, fun q => by exfalso; omega, fun _ => ⟨fun q => by exfalso; omega, fun _ => (by have q := f44; rw [show gI h27 71 = gI h0 71 from gI_f9 hO0 hv27 (by decide) rfl (by decide), show fI h27 1 = fI h0 1 from fI_keep (k := 1) hO0 hO27 hv27 rfl (by decide)] at q; exact q)⟩⟩⟩⟩ hO27 hu27 hp26)
          · have t49 := ne_no c32
            refine ur_ldI rfl rfl ?_
            refine ur_go rfl ?_
            obtain ⟨fs50, hc51⟩ := hO27.mod
            obtain ⟨f52, p53, t54⟩ := mf_4 hO27 hc51
            have t55 := fI_of hc51 p53
            have t56 := fI_keep (k := 4) hO0 hO27 hu27 rfl (by decide)
            exact ur_ret rfl rfl (hQ _ _ ⟨_, rfl, ⟨fun q => absurd (by omega) q, fun _ => ⟨x28.toInt, f29.1, fun q => by exfalso; omega, fun _ => ⟨fun _ => by omega, fun q => by exfalso; omega⟩⟩⟩⟩ hO27 hu27 hp26)
        · have t57 := le_no c30
          refine ur_push rfl ?_
          refine ur_go rfl ?_
          obtain ⟨fs58, hc59⟩ := hO27.mod
          obtain ⟨f60, p61, t62⟩ := mf_4 hO27 hc59
          have t63 := fI_of hc59 p61
          have t64 := fI_keep (k := 4) hO0 hO27 hu27 rfl (by decide)
          exact ur_ret rfl rfl (hQ _ _ ⟨_, rfl, ⟨fun q => absurd (by omega) q, fun _ => ⟨x28.toInt, f29.1, fun _ => by omega, fun q => by exfalso; omega⟩⟩⟩ hO27 hu27 hp26)
      · have t65 := wi_noL c22 l_0 l_1
        refine ur_push rfl ?_
        exact ur_ret rfl rfl (hQ _ _ ⟨_, rfl, ⟨fun _ => by omega, fun q => by exfalso; omega⟩⟩ hO0 un.rf pre0)

set_option maxRecDepth 20000 in
set_option maxHeartbeats 4000000 in
theorem sd_X11_ofComet {d kc ks : Nat} {h0 : aH} {Q : Option aV → aH → Prop} (hO0 : OK h0) (a1 : Int32) (a2 : Int32) (pre0 : SKc h0) (hQ : ∀ r, (∃ x : Int32, r = some (.inl x) ∧ (((0 ≤ a1.toInt ∧ a1.toInt < fO h0 1 4) → ∃ z, cz h0 a1.toInt z ∧ (a2.toInt = 0 → x.toInt = fO h0 z 0) ∧ (a2.toInt = 1 → x.toInt = fO h0 z 1) ∧ (a2.toInt = 2 → x.toInt = fO h0 z 2) ∧ (a2.toInt = 3 → x.toInt = fO h0 z 3) ∧ (a2.toInt = 4 → x.toInt = fO h0 z 4) ∧ (a2.toInt = 5 → x.toInt = fO h0 z 5) ∧ (a2.toInt = 6 → x.toInt = fO h0 z 6) ∧ (a2.toInt = 7 → x.toInt = fO h0 z 7) ∧ (a2.toInt < 0 ∨ 7 < a2.toInt → x.toInt = -2000000000)) ∧ (¬ (0 ≤ a1.toInt ∧ a1.toInt < fO h0 1 4) → x.toInt = -2000000000))) → Q r h0) : uCall Mt (d + 2) 126 [(.inr (.inr (some 0))), (.inl a1), (.inl a2)] h0 kc ks Q := by
  have l_m2000000000 : ((-2000000000) : Int32).toInt = -2000000000 := by decide
  refine uc_ink [some (.inr (.inr (some 0))), some (.inl a1), some (.inl a2), none] mt_126 (Nat.le_of_ble_eq_true rfl) rfl ?_
  obtain ⟨f2, f3, hc1, k4⟩ := ok_1 hO0
  have t5 := fO_of (k := 4) hc1 rfl
  refine ur_ldA rfl rfl ?_
  obtain ⟨hc6, k7⟩ := ok_0 hO0
  refine ur_get rfl hc6 rfl ?_
  refine ur_ldI rfl rfl ?_
  refine ur_inl rfl (rcv_of hc1) (Nat.le_of_ble_eq_true rfl) (Nat.le_of_ble_eq_true rfl) (sd_X6_cometAt hO0 _ pre0 (fun w8 hr9 => ?_))
  obtain ⟨o10, rfl, k11, t12, t13⟩ := hr9
  show uRun _ (uCall Mt _) _ 8 (_, [(.inr (.inr o10))], _, _, _)
  refine ur_svAk [some (.inr (.inr (some 0))), some (.inl a1), some (.inl a2), some (.inr (.inr o10))] rfl rfl ?_
  refine ur_ldA rfl rfl ?_
  cases o10 with
  | none =>
    refine ur_nulN rfl ?_
    have t15 := t12 rfl
    refine ur_push rfl ?_
    exact ur_ret rfl rfl (hQ _ ⟨_, rfl, ⟨fun q => by exfalso; omega, fun _ => by omega⟩⟩ )
  | some r14 =>
    refine ur_nulS rfl ?_
    have k16 := k11 _ rfl
    have t17 := t13 _ rfl
    refine ur_ldI rfl rfl ?_
    rcases (show (a2.toInt < 0 ∨ 7 < a2.toInt) ∨ a2.toInt = 0 ∨ a2.toInt = 1 ∨ a2.toInt = 2 ∨ a2.toInt = 3 ∨ a2.toInt = 4 ∨ a2.toInt = 5 ∨ a2.toInt = 6 ∨ a2.toInt = 7 by omega) with t18 | t18 | t18 | t18 | t18 | t18 | t18 | t18 | t18
    · refine ur_tabO rfl (by show a2.toInt < 0 ∨ 0 + 8 ≤ a2.toInt; omega) ?_
      refine ur_push rfl ?_
      exact ur_ret rfl rfl (hQ _ ⟨_, rfl, ⟨fun _ => ⟨r14, t17.2, fun q => by omega, fun q => by omega, fun q => by omega, fun q => by omega, fun q => by omega, fun q => by omega, fun q => by omega, fun q => by omega, fun q => by omega⟩, fun q => absurd (by omega) q⟩⟩ )
    · refine ur_tabI rfl (by omega) (by rw [t18]; rfl) ?_
      refine ur_ldA rfl rfl ?_
      obtain ⟨g39, f20, f21, f22, f23, f24, f25, f26, f27, f28, f29, q30, q31, o32, q33, hc19, k34, k35, k36, k37, k38⟩ := hO0.comet k16.2
      refine ur_get rfl hc19 rfl ?_
      have t40 := fO_of (k := 0) hc19 rfl
      exact ur_ret rfl rfl (hQ _ ⟨_, rfl, ⟨fun _ => ⟨r14, t17.2, fun q => by omega, fun q => by omega, fun q => by omega, fun q => by omega, fun q => by omega, fun q => by omega, fun q => by omega, fun q => by omega, fun q => by omega⟩, fun q => absurd (by omega) q⟩⟩ )
    · refine ur_tabI rfl (by omega) (by rw [t18]; rfl) ?_
      refine ur_ldA rfl rfl ?_
      obtain ⟨g61, f42, f43, f44, f45, f46, f47, f48, f49, f50, f51, q52, q53, o54, q55, hc41, k56, k57, k58, k59, k60⟩ := hO0.comet k16.2
      refine ur_get rfl hc41 rfl ?_
      have t62 := fO_of (k := 1) hc41 rfl
      exact ur_ret rfl rfl (hQ _ ⟨_, rfl, ⟨fun _ => ⟨r14, t17.2, fun q => by omega, fun q => by omega, fun q => by omega, fun q => by omega, fun q => by omega, fun q => by omega, fun q => by omega, fun q => by omega, fun q => by omega⟩, fun q => absurd (by omega) q⟩⟩ )
    · refine ur_tabI rfl (by omega) (by rw [t18]; rfl) ?_
      refine ur_ldA rfl rfl ?_
      obtain ⟨g83, f64, f65, f66, f67, f68, f69, f70, f71, f72, f73, q74, q75, o76, q77, hc63, k78, k79, k80, k81, k82⟩ := hO0.comet k16.2
      refine ur_get rfl hc63 rfl ?_
      have t84 := fO_of (k := 2) hc63 rfl
      exact ur_ret rfl rfl (hQ _ ⟨_, rfl, ⟨fun _ => ⟨r14, t17.2, fun q => by omega, fun q => by omega, fun q => by omega, fun q => by omega, fun q => by omega, fun q => by omega, fun q => by omega, fun q => by omega, fun q => by omega⟩, fun q => absurd (by omega) q⟩⟩ )
    · refine ur_tabI rfl (by omega) (by rw [t18]; rfl) ?_
      refine ur_ldA rfl rfl ?_
      obtain ⟨g105, f86, f87, f88, f89, f90, f91, f92, f93, f94, f95, q96, q97, o98, q99, hc85, k100, k101, k102, k103, k104⟩ := hO0.comet k16.2
      refine ur_get rfl hc85 rfl ?_
      have t106 := fO_of (k := 3) hc85 rfl
      exact ur_ret rfl rfl (hQ _ ⟨_, rfl, ⟨fun _ => ⟨r14, t17.2, fun q => by omega, fun q => by omega, fun q => by omega, fun q => by omega, fun q => by omega, fun q => by omega, fun q => by omega, fun q => by omega, fun q => by omega⟩, fun q => absurd (by omega) q⟩⟩ )
    · refine ur_tabI rfl (by omega) (by rw [t18]; rfl) ?_
      refine ur_ldA rfl rfl ?_
      obtain ⟨g127, f108, f109, f110, f111, f112, f113, f114, f115, f116, f117, q118, q119, o120, q121, hc107, k122, k123, k124, k125, k126⟩ := hO0.comet k16.2
      refine ur_get rfl hc107 rfl ?_
      have t128 := fO_of (k := 4) hc107 rfl
      exact ur_ret rfl rfl (hQ _ ⟨_, rfl, ⟨fun _ => ⟨r14, t17.2, fun q => by omega, fun q => by omega, fun q => by omega, fun q => by omega, fun q => by omega, fun q => by omega, fun q => by omega, fun q => by omega, fun q => by omega⟩, fun q => absurd (by omega) q⟩⟩ )
    · refine ur_tabI rfl (by omega) (by rw [t18]; rfl) ?_
      refine ur_ldA rfl rfl ?_
      obtain ⟨g149, f130, f131, f132, f133, f134, f135, f136, f137, f138, f139, q140, q141, o142, q143, hc129, k144, k145, k146, k147, k148⟩ := hO0.comet k16.2
      refine ur_get rfl hc129 rfl ?_
      have t150 := fO_of (k := 5) hc129 rfl
      exact ur_ret rfl rfl (hQ _ ⟨_, rfl, ⟨fun _ => ⟨r14, t17.2, fun q => by omega, fun q => by omega, fun q => by omega, fun q => by omega, fun q => by omega, fun q => by omega, fun q => by omega, fun q => by omega, fun q => by omega⟩, fun q => absurd (by omega) q⟩⟩ )
    · refine ur_tabI rfl (by omega) (by rw [t18]; rfl) ?_
      refine ur_ldA rfl rfl ?_
      obtain ⟨g171, f152, f153, f154, f155, f156, f157, f158, f159, f160, f161, q162, q163, o164, q165, hc151, k166, k167, k168, k169, k170⟩ := hO0.comet k16.2
      refine ur_get rfl hc151 rfl ?_
      have t172 := fO_of (k := 6) hc151 rfl
      exact ur_ret rfl rfl (hQ _ ⟨_, rfl, ⟨fun _ => ⟨r14, t17.2, fun q => by omega, fun q => by omega, fun q => by omega, fun q => by omega, fun q => by omega, fun q => by omega, fun q => by omega, fun q => by omega, fun q => by omega⟩, fun q => absurd (by omega) q⟩⟩ )
    · refine ur_tabI rfl (by omega) (by rw [t18]; rfl) ?_
      refine ur_ldA rfl rfl ?_
      obtain ⟨g193, f174, f175, f176, f177, f178, f179, f180, f181, f182, f183, q184, q185, o186, q187, hc173, k188, k189, k190, k191, k192⟩ := hO0.comet k16.2
      refine ur_get rfl hc173 rfl ?_
      have t194 := fO_of (k := 7) hc173 rfl
      exact ur_ret rfl rfl (hQ _ ⟨_, rfl, ⟨fun _ => ⟨r14, t17.2, fun q => by omega, fun q => by omega, fun q => by omega, fun q => by omega, fun q => by omega, fun q => by omega, fun q => by omega, fun q => by omega, fun q => by omega⟩, fun q => absurd (by omega) q⟩⟩ )

set_option maxRecDepth 20000 in
set_option maxHeartbeats 4000000 in
theorem sd_X12_ofComet {d kc ks : Nat} {h0 : aH} {Q : Option aV → aH → Prop} (hO0 : OK h0) (a1 : Int32) (a2 : Int32) (hQ : ∀ r, (∃ x : Int32, r = some (.inl x) ∧ (((0 ≤ a1.toInt ∧ a1.toInt < fI h0 4) → (a2.toInt = 0 → x.toInt = gI h0 72 a1.toInt) ∧ (a2.toInt = 1 → x.toInt = gI h0 73 a1.toInt) ∧ (a2.toInt = 2 → x.toInt = gI h0 74 a1.toInt) ∧ (a2.toInt = 3 → x.toInt = gI h0 75 a1.toInt) ∧ (a2.toInt = 4 → x.toInt = gI h0 76 a1.toInt) ∧ (a2.toInt = 5 → x.toInt = gI h0 77 a1.toInt) ∧ (a2.toInt = 6 → x.toInt = gI h0 78 a1.toInt) ∧ (a2.toInt = 7 → x.toInt = gI h0 79 a1.toInt) ∧ (a2.toInt < 0 ∨ 7 < a2.toInt → x.toInt = -2000000000)) ∧ (¬ (0 ≤ a1.toInt ∧ a1.toInt < fI h0 4) → x.toInt = -2000000000))) → Q r h0) : uCall Mt (d + 3) 194 [(.inr (.inr (some 69))), (.inl a1), (.inl a2)] h0 kc ks Q := by
  have l_m2000000000 : ((-2000000000) : Int32).toInt = -2000000000 := by decide
  refine uc_ink [some (.inr (.inr (some 69))), some (.inl a1), some (.inl a2)] mt_194 (Nat.le_of_ble_eq_true rfl) rfl ?_
  obtain ⟨fs1, hc2⟩ := hO0.mod
  obtain ⟨f3, p4, t5⟩ := mf_4 hO0 hc2
  have t6 := fI_of hc2 p4
  refine ur_ldA rfl rfl ?_
  refine ur_ldI rfl rfl ?_
  refine ur_inl rfl (rcv_of hc2) (Nat.le_of_ble_eq_true rfl) (Nat.le_of_ble_eq_true rfl) (sd_X12_isComet hO0 _ (fun w7 hr8 => ?_))
  obtain ⟨b9, rfl, t10, t11⟩ := hr8
  show uRun _ (uCall Mt _) _ 5 (_, [(.inl (bi b9))], _, _, _)
  refine ur_neB rfl (fun c12 => ?_) (fun c12 => ?_)
  · have t13 := t10 c12
    clear t10 t11
    refine ur_ldI rfl rfl ?_
    rcases (show (a2.toInt < 0 ∨ 7 < a2.toInt) ∨ a2.toInt = 0 ∨ a2.toInt = 1 ∨ a2.toInt = 2 ∨ a2.toInt = 3 ∨ a2.toInt = 4 ∨ a2.toInt = 5 ∨ a2.toInt = 6 ∨ a2.toInt = 7 by omega) with t14 | t14 | t14 | t14 | t14 | t14 | t14 | t14 | t14
    · refine ur_tabO rfl (by show a2.toInt < 0 ∨ 0 + 8 ≤ a2.toInt; omega) ?_
      refine ur_push rfl ?_
      exact ur_ret rfl rfl (hQ _ ⟨_, rfl, ⟨fun _ => ⟨fun q => by omega, fun q => by omega, fun q => by omega, fun q => by omega, fun q => by omega, fun q => by omega, fun q => by omega, fun q => by omega, fun q => by omega⟩, fun q => absurd (by omega) q⟩⟩ )
    · refine ur_tabI rfl (by omega) (by rw [t14]; rfl) ?_
      refine ur_ldA rfl rfl ?_
      refine ur_get rfl hc2 (mf_5 hO0 hc2) ?_
      refine ur_ldI rfl rfl ?_
      obtain ⟨xs16, hc15, hn17, he18⟩ := hO0.int (hO0.fix 72 (by decide) rfl)
      refine ur_aldV rfl hc15 hn17 (by omega) (fun x19 hx20 => ?_)
      have t21 := gI_of (j := a1) hc15 hx20
      have t22 : 0 ≤ x19.toInt ∧ x19.toInt ≤ 999999 := he18 _ _ hx20
      exact ur_ret rfl rfl (hQ _ ⟨_, rfl, ⟨fun _ => ⟨fun q => by omega, fun q => by omega, fun q => by omega, fun q => by omega, fun q => by omega, fun q => by omega, fun q => by omega, fun q => by omega, fun q => by omega⟩, fun q => absurd (by omega) q⟩⟩ )
    · refine ur_tabI rfl (by omega) (by rw [t14]; rfl) ?_
      refine ur_ldA rfl rfl ?_
      refine ur_get rfl hc2 (mf_6 hO0 hc2) ?_
      refine ur_ldI rfl rfl ?_
      obtain ⟨xs24, hc23, hn25, he26⟩ := hO0.int (hO0.fix 73 (by decide) rfl)
      refine ur_aldV rfl hc23 hn25 (by omega) (fun x27 hx28 => ?_)
      have t29 := gI_of (j := a1) hc23 hx28
      exact ur_ret rfl rfl (hQ _ ⟨_, rfl, ⟨fun _ => ⟨fun q => by omega, fun q => by omega, fun q => by omega, fun q => by omega, fun q => by omega, fun q => by omega, fun q => by omega, fun q => by omega, fun q => by omega⟩, fun q => absurd (by omega) q⟩⟩ )
    · refine ur_tabI rfl (by omega) (by rw [t14]; rfl) ?_
      refine ur_ldA rfl rfl ?_
      refine ur_get rfl hc2 (mf_7 hO0 hc2) ?_
      refine ur_ldI rfl rfl ?_
      obtain ⟨xs31, hc30, hn32, he33⟩ := hO0.int (hO0.fix 74 (by decide) rfl)
      refine ur_aldV rfl hc30 hn32 (by omega) (fun x34 hx35 => ?_)
      have t36 := gI_of (j := a1) hc30 hx35
      exact ur_ret rfl rfl (hQ _ ⟨_, rfl, ⟨fun _ => ⟨fun q => by omega, fun q => by omega, fun q => by omega, fun q => by omega, fun q => by omega, fun q => by omega, fun q => by omega, fun q => by omega, fun q => by omega⟩, fun q => absurd (by omega) q⟩⟩ )
    · refine ur_tabI rfl (by omega) (by rw [t14]; rfl) ?_
      refine ur_ldA rfl rfl ?_
      refine ur_get rfl hc2 (mf_8 hO0 hc2) ?_
      refine ur_ldI rfl rfl ?_
      obtain ⟨xs38, hc37, hn39, he40⟩ := hO0.int (hO0.fix 75 (by decide) rfl)
      refine ur_aldV rfl hc37 hn39 (by omega) (fun x41 hx42 => ?_)
      have t43 := gI_of (j := a1) hc37 hx42
      have t44 : 0 ≤ x41.toInt ∧ x41.toInt ≤ 99 := he40 _ _ hx42
      exact ur_ret rfl rfl (hQ _ ⟨_, rfl, ⟨fun _ => ⟨fun q => by omega, fun q => by omega, fun q => by omega, fun q => by omega, fun q => by omega, fun q => by omega, fun q => by omega, fun q => by omega, fun q => by omega⟩, fun q => absurd (by omega) q⟩⟩ )
    · refine ur_tabI rfl (by omega) (by rw [t14]; rfl) ?_
      refine ur_ldA rfl rfl ?_
      refine ur_get rfl hc2 (mf_9 hO0 hc2) ?_
      refine ur_ldI rfl rfl ?_
      obtain ⟨xs46, hc45, hn47, he48⟩ := hO0.int (hO0.fix 76 (by decide) rfl)
      refine ur_aldV rfl hc45 hn47 (by omega) (fun x49 hx50 => ?_)
      have t51 := gI_of (j := a1) hc45 hx50
      exact ur_ret rfl rfl (hQ _ ⟨_, rfl, ⟨fun _ => ⟨fun q => by omega, fun q => by omega, fun q => by omega, fun q => by omega, fun q => by omega, fun q => by omega, fun q => by omega, fun q => by omega, fun q => by omega⟩, fun q => absurd (by omega) q⟩⟩ )
    · refine ur_tabI rfl (by omega) (by rw [t14]; rfl) ?_
      refine ur_ldA rfl rfl ?_
      refine ur_get rfl hc2 (mf_10 hO0 hc2) ?_
      refine ur_ldI rfl rfl ?_
      obtain ⟨xs53, hc52, hn54, he55⟩ := hO0.int (hO0.fix 77 (by decide) rfl)
      refine ur_aldV rfl hc52 hn54 (by omega) (fun x56 hx57 => ?_)
      have t58 := gI_of (j := a1) hc52 hx57
      exact ur_ret rfl rfl (hQ _ ⟨_, rfl, ⟨fun _ => ⟨fun q => by omega, fun q => by omega, fun q => by omega, fun q => by omega, fun q => by omega, fun q => by omega, fun q => by omega, fun q => by omega, fun q => by omega⟩, fun q => absurd (by omega) q⟩⟩ )
    · refine ur_tabI rfl (by omega) (by rw [t14]; rfl) ?_
      refine ur_ldA rfl rfl ?_
      refine ur_get rfl hc2 (mf_11 hO0 hc2) ?_
      refine ur_ldI rfl rfl ?_
      obtain ⟨xs60, hc59, hn61, he62⟩ := hO0.int (hO0.fix 78 (by decide) rfl)
      refine ur_aldV rfl hc59 hn61 (by omega) (fun x63 hx64 => ?_)
      have t65 := gI_of (j := a1) hc59 hx64
      have t66 : -1 ≤ x63.toInt ∧ x63.toInt ≤ 11 := he62 _ _ hx64
      exact ur_ret rfl rfl (hQ _ ⟨_, rfl, ⟨fun _ => ⟨fun q => by omega, fun q => by omega, fun q => by omega, fun q => by omega, fun q => by omega, fun q => by omega, fun q => by omega, fun q => by omega, fun q => by omega⟩, fun q => absurd (by omega) q⟩⟩ )
    · refine ur_tabI rfl (by omega) (by rw [t14]; rfl) ?_
      refine ur_ldA rfl rfl ?_
      refine ur_get rfl hc2 (mf_12 hO0 hc2) ?_
      refine ur_ldI rfl rfl ?_
      obtain ⟨xs68, hc67, hn69, he70⟩ := hO0.int (hO0.fix 79 (by decide) rfl)
      refine ur_aldV rfl hc67 hn69 (by omega) (fun x71 hx72 => ?_)
      have t73 := gI_of (j := a1) hc67 hx72
      exact ur_ret rfl rfl (hQ _ ⟨_, rfl, ⟨fun _ => ⟨fun q => by omega, fun q => by omega, fun q => by omega, fun q => by omega, fun q => by omega, fun q => by omega, fun q => by omega, fun q => by omega, fun q => by omega⟩, fun q => absurd (by omega) q⟩⟩ )
  · have t74 := t11 c12
    clear t10 t11
    refine ur_push rfl ?_
    exact ur_ret rfl rfl (hQ _ ⟨_, rfl, ⟨fun q => by exfalso; omega, fun _ => by omega⟩⟩ )

set_option maxRecDepth 20000 in
set_option maxHeartbeats 4000000 in
theorem sd_X12_broke {d kc ks : Nat} {h0 : aH} {Q : Option aV → aH → Prop} (hO0 : OK h0) (hX0 : SX h0) (a1 : Int32) (a2 : Int32) (pre0 : SKm h0) (hQ : ∀ r h', (∃ x : Int32, r = some (.inl x) ∧ ((¬ ((0 ≤ a1.toInt ∧ a1.toInt < fI h0 4) ∧ -60 ≤ a2.toInt ∧ a2.toInt ≤ 60) → x.toInt = -1 ∧ fI h' 4 = (fI h0 4)) ∧ (((0 ≤ a1.toInt ∧ a1.toInt < fI h0 4) ∧ -60 ≤ a2.toInt ∧ a2.toInt ≤ 60) → ∃ t, retV (NMh h0 (gI h0 73 a1.toInt)) (gI h0 73 a1.toInt) (gI h0 72 a1.toInt) a2.toInt t ∧ (t < 0 → x.toInt = -2 ∧ fI h' 4 = (fI h0 4)) ∧ (0 ≤ t → (gI h0 79 a1.toInt ≠ -2000000000 → x.toInt = -5 ∧ fI h' 4 = (fI h0 4)) ∧ (gI h0 79 a1.toInt = -2000000000 → (12 < (fI h0 4) + 2 → x.toInt = -3 ∧ fI h' 4 = (fI h0 4)) ∧ ((fI h0 4) + 2 ≤ 12 → x.toInt = (fI h0 4) ∧ fI h' 4 = (fI h0 4) + 2)))))) → OK h' → un [72, 73, 74, 75, 76, 77, 78, 79, 80, 81, 7904] h0 h' → (fI h' 4 ≤ fI h0 4 + 2) → (SX h') → (SKm h') → (KMs 79 h0 h') → (imG (fI h' 4 = (fI h0 4) + 2) (gI h' 79 a1.toInt = a2.toInt ∧ (∀ i : Int, 0 ≤ i → i < (fI h0 4) → i ≠ a1.toInt → gI h' 79 i = gI h0 79 i) ∧ ∃ t, retV (NMh h0 (gI h0 73 a1.toInt)) (gI h0 73 a1.toInt) (gI h0 72 a1.toInt) a2.toInt t ∧ NMz h' (fI h0 4) t (gI h0 73 a1.toInt + 30) ((gI h0 74 a1.toInt + 1) % 360) (gI h0 75 a1.toInt) (gI h0 76 a1.toInt) (if gI h0 77 a1.toInt = 0 then 0 else gI h0 77 a1.toInt - 1) a1.toInt (-2000000000) ∧ NMz h' ((fI h0 4) + 1) t (gI h0 73 a1.toInt - 30) ((gI h0 74 a1.toInt + 359) % 360) (gI h0 75 a1.toInt) (gI h0 76 a1.toInt) (if gI h0 77 a1.toInt = 0 then 0 else gI h0 77 a1.toInt - 1) a1.toInt (-2000000000))) → (imG (fI h' 4 = fI h0 4) (KMs 80 h0 h')) → Q r h') : uCall Mt (d + 5) 278 [(.inr (.inr (some 69))), (.inl a1), (.inl a2)] h0 kc ks Q := by
  have l_m2000000000 : ((-2000000000) : Int32).toInt = -2000000000 := by decide
  have l_m60 : ((-60) : Int32).toInt = -60 := by decide
  have l_m5 : ((-5) : Int32).toInt = -5 := by decide
  have l_m3 : ((-3) : Int32).toInt = -3 := by decide
  have l_m2 : ((-2) : Int32).toInt = -2 := by decide
  have l_m1 : ((-1) : Int32).toInt = -1 := by decide
  have l_0 : ((0) : Int32).toInt = 0 := by decide
  have l_1 : ((1) : Int32).toInt = 1 := by decide
  have l_2 : ((2) : Int32).toInt = 2 := by decide
  have l_12 : ((12) : Int32).toInt = 12 := by decide
  have l_30 : ((30) : Int32).toInt = 30 := by decide
  have l_60 : ((60) : Int32).toInt = 60 := by decide
  have l_359 : ((359) : Int32).toInt = 359 := by decide
  have l_360 : ((360) : Int32).toInt = 360 := by decide
  refine uc_ink [some (.inr (.inr (some 69))), some (.inl a1), some (.inl a2), none, none, none] mt_278 (Nat.le_of_ble_eq_true rfl) rfl ?_
  obtain ⟨fs1, hc2⟩ := hO0.mod
  obtain ⟨f3, p4, t5⟩ := mf_4 hO0 hc2
  have t6 := fI_of hc2 p4
  refine ur_ldA rfl rfl ?_
  refine ur_ldI rfl rfl ?_
  refine ur_inl rfl (rcv_of hc2) (Nat.le_of_ble_eq_true rfl) (Nat.le_of_ble_eq_true rfl) (sd_X12_isComet hO0 _ (fun w7 hr8 => ?_))
  obtain ⟨b9, rfl, t10, t11⟩ := hr8
  show uRun _ (uCall Mt _) _ 5 (_, [(.inl (bi b9))], _, _, _)
  refine ur_eqB rfl (fun c12 => ?_) (fun c12 => ?_)
  · have t13 := t11 c12
    clear t10 t11
    refine ur_push rfl ?_
    exact ur_ret rfl rfl (hQ _ _ ⟨_, rfl, ⟨fun _ => ⟨by omega, by omega⟩, fun q => by exfalso; omega⟩⟩ hO0 un.rf (by omega) hX0 pre0 KMs.rf (fun q => by exfalso; omega) (fun _ => KMs.rf))
  · have t14 := t10 c12
    clear t10 t11
    refine ur_ldI rfl rfl ?_
    refine ur_callv rfl rfl (Nat.le_of_ble_eq_true rfl) (Nat.le_of_ble_eq_true rfl) rfl (sq_isRet _ _) ?_
    refine ur_neB rfl (fun c17 => ?_) (fun c17 => ?_)
    · have t18 := wi_toL c17 l_m60 l_60
      refine ur_ldA rfl rfl ?_
      refine ur_ldI rfl rfl ?_
      refine ur_ldI rfl rfl ?_
      refine ur_inl rfl (rcv_of hc2) (Nat.le_of_ble_eq_true rfl) (Nat.le_of_ble_eq_true rfl) (sd_X12_passOf hO0 hX0 _ (by show 0 ≤ a1.toInt ∧ a1.toInt ≤ 11; omega) _ (by show -60 ≤ a2.toInt ∧ a2.toInt ≤ 60; omega) pre0 (by omega) (fun w19 h22 hr20 hO22 hv22 hp21 => ?_))
      have hu22 : un [72, 73, 74, 75, 76, 77, 78, 79, 80, 81, 7904] h0 h22 := hv22.mono (by decide)
      obtain ⟨x23, rfl, f24⟩ := hr20
      show uRun _ (uCall Mt _) _ 23 (_, [(.inl x23)], _, _, _)
      refine ur_svIk [some (.inr (.inr (some 69))), some (.inl a1), some (.inl a2), some (.inl x23), none, none] rfl rfl ?_
      have t26 : gI h22 72 a1.toInt = gI h0 72 a1.toInt := gI_keep (a := 72) (kd := 0) (n := 12) hO0 hv22 _ (by decide) rfl (by decide) rfl (by decide) (by decide)
      have t27 : gI h22 73 a1.toInt = gI h0 73 a1.toInt := gI_keep (a := 73) (kd := 0) (n := 12) hO0 hv22 _ (by decide) rfl (by decide) rfl (by decide) (by decide)
      have t28 : gI h22 74 a1.toInt = gI h0 74 a1.toInt := gI_keep (a := 74) (kd := 0) (n := 12) hO0 hv22 _ (by decide) rfl (by decide) rfl (by decide) (by decide)
      have t29 : gI h22 75 a1.toInt = gI h0 75 a1.toInt := gI_keep (a := 75) (kd := 0) (n := 12) hO0 hv22 _ (by decide) rfl (by decide) rfl (by decide) (by decide)
      have t30 : gI h22 76 a1.toInt = gI h0 76 a1.toInt := gI_keep (a := 76) (kd := 0) (n := 12) hO0 hv22 _ (by decide) rfl (by decide) rfl (by decide) (by decide)
      have t31 : gI h22 77 a1.toInt = gI h0 77 a1.toInt := gI_keep (a := 77) (kd := 0) (n := 12) hO0 hv22 _ (by decide) rfl (by decide) rfl (by decide) (by decide)
      have t32 : gI h22 78 a1.toInt = gI h0 78 a1.toInt := gI_keep (a := 78) (kd := 0) (n := 12) hO0 hv22 _ (by decide) rfl (by decide) rfl (by decide) (by decide)
      have t33 : gI h22 79 a1.toInt = gI h0 79 a1.toInt := gI_keep (a := 79) (kd := 0) (n := 12) hO0 hv22 _ (by decide) rfl (by decide) rfl (by decide) (by decide)
      have r25 := (pre0.2.1 a1.toInt (by omega) (by omega)).1
      unfold CMm CMr at r25
      refine ur_ldI rfl rfl ?_
      refine ur_if1 rfl (fun c34 => ?_) (fun c34 => ?_)
      · have t35 := le_to c34
        refine ur_ldA rfl rfl ?_
        obtain ⟨fs36, hc37⟩ := hO22.mod
        refine ur_get rfl hc37 (mf_12 hO22 hc37) ?_
        refine ur_ldI rfl rfl ?_
        obtain ⟨xs39, hc38, hn40, he41⟩ := hO22.int (hO22.fix 79 (by decide) rfl)
        refine ur_aldV rfl hc38 hn40 (by omega) (fun x42 hx43 => ?_)
        have t44 := gI_of (j := a1) hc38 hx43
        refine ur_push rfl ?_
        refine ur_if2 rfl (fun c45 => ?_) (fun c45 => ?_)
        · have t46 := eq_to c45
          refine ur_ldA rfl rfl ?_
          obtain ⟨f47, p48, t49⟩ := mf_4 hO22 hc37
          have t50 := fI_of hc37 p48
          refine ur_get rfl hc37 p48 ?_
          refine ur_push rfl ?_
          refine ur_binV rfl (fun x51 e52 => ?_)
          have z53 := any_r f47
          have t54 := ti_add e52 (by omega) (by omega)
          refine ur_push rfl ?_
          refine ur_if2 rfl (fun c55 => ?_) (fun c55 => ?_)
          · have t56 := le_to c55
            refine ur_ldA rfl rfl ?_
            refine ur_get rfl hc37 (mf_10 hO22 hc37) ?_
            refine ur_ldI rfl rfl ?_
            obtain ⟨xs58, hc57, hn59, he60⟩ := hO22.int (hO22.fix 77 (by decide) rfl)
            refine ur_aldV rfl hc57 hn59 (by omega) (fun x61 hx62 => ?_)
            have t63 := gI_of (j := a1) hc57 hx62
            refine ur_if1 rfl (fun c64 => ?_) (fun c64 => ?_)
            · have t65 := ne_to c64
              refine ur_ldA rfl rfl ?_
              refine ur_get rfl hc37 (mf_10 hO22 hc37) ?_
              refine ur_ldI rfl rfl ?_
              refine ur_aldV rfl hc57 hn59 (by omega) (fun x66 hx67 => ?_)
              obtain rfl : x61 = x66 := Option.some.inj (hx62.symm.trans hx67)
              refine ur_push rfl ?_
              refine ur_binV rfl (fun x68 e69 => ?_)
              have z70 := any_r x61
              have t71 := ti_sub e69 (by omega) (by omega)
              refine ur_svIk [some (.inr (.inr (some 69))), some (.inl a1), some (.inl a2), some (.inl x23), some (.inl x68), none] rfl rfl ?_
              refine ur_ldA rfl rfl ?_
              refine ur_ldI rfl rfl ?_
              refine ur_ldA rfl rfl ?_
              refine ur_get rfl hc37 (mf_6 hO22 hc37) ?_
              refine ur_ldI rfl rfl ?_
              obtain ⟨xs73, hc72, hn74, he75⟩ := hO22.int (hO22.fix 73 (by decide) rfl)
              refine ur_aldV rfl hc72 hn74 (by omega) (fun x76 hx77 => ?_)
              have t78 := gI_of (j := a1) hc72 hx77
              refine ur_push rfl ?_
              refine ur_binV rfl (fun x79 e80 => ?_)
              have z81 := any_r x76
              have t82 := ti_add e80 (by omega) (by omega)
              refine ur_ldA rfl rfl ?_
              refine ur_get rfl hc37 (mf_7 hO22 hc37) ?_
              refine ur_ldI rfl rfl ?_
              obtain ⟨xs84, hc83, hn85, he86⟩ := hO22.int (hO22.fix 74 (by decide) rfl)
              refine ur_aldV rfl hc83 hn85 (by omega) (fun x87 hx88 => ?_)
              have t89 := gI_of (j := a1) hc83 hx88
              refine ur_push rfl ?_
              refine ur_binV rfl (fun x90 e91 => ?_)
              have z92 := any_r x87
              have t93 := ti_add e91 (by omega) (by omega)
              refine ur_push rfl ?_
              refine ur_divV rfl (by decide) (fun x94 e95 => ?_)
              have z96 := any_r x90
              have t97 := ti_rem e95 l_360 (by decide) (by omega)
              refine ur_ldA rfl rfl ?_
              refine ur_get rfl hc37 (mf_8 hO22 hc37) ?_
              refine ur_ldI rfl rfl ?_
              obtain ⟨xs99, hc98, hn100, he101⟩ := hO22.int (hO22.fix 75 (by decide) rfl)
              refine ur_aldV rfl hc98 hn100 (by omega) (fun x102 hx103 => ?_)
              have t104 := gI_of (j := a1) hc98 hx103
              have t105 : 0 ≤ x102.toInt ∧ x102.toInt ≤ 99 := he101 _ _ hx103
              have t106 := fI_keep (k := 4) hO0 hO22 hv22 rfl (by decide)
              have t107 := SX.rx (j := a1) (hX0.un hO0 hO22 hv22 (by decide)) hc98 hx103 (by omega)
              refine ur_ldA rfl rfl ?_
              refine ur_get rfl hc37 (mf_9 hO22 hc37) ?_
              refine ur_ldI rfl rfl ?_
              obtain ⟨xs109, hc108, hn110, he111⟩ := hO22.int (hO22.fix 76 (by decide) rfl)
              refine ur_aldV rfl hc108 hn110 (by omega) (fun x112 hx113 => ?_)
              have t114 := gI_of (j := a1) hc108 hx113
              refine ur_ldI rfl rfl ?_
              refine ur_ldI rfl rfl ?_
              refine ur_inl rfl (rcv_of hc37) (Nat.le_of_ble_eq_true rfl) (Nat.le_of_ble_eq_true rfl) (sd_X12_newComet hO22 (hX0.un hO0 hO22 hv22 (by decide)) _ (by show 0 ≤ x23.toInt ∧ x23.toInt ≤ 999999; omega) _ _ _ (by show 5 ≤ x102.toInt ∧ x102.toInt ≤ 99; omega) _ _ _ (by show -1 ≤ a1.toInt ∧ a1.toInt ≤ 11; omega) hp21 (by omega) (by omega) (by unfold CMr; omega) (fun w115 h121 hr116 hO121 hv121 hp117 hp118 hp119 hp120 => ?_))
              have hu121 : un [72, 73, 74, 75, 76, 77, 78, 79, 80, 81, 7904] h22 h121 := hv121.mono (by decide)
              obtain ⟨x122, rfl, t123⟩ := hr116
              show uRun _ (uCall Mt _) _ 123 (_, [(.inl x122)], _, _, _)
              refine ur_svIk [some (.inr (.inr (some 69))), some (.inl a1), some (.inl a2), some (.inl x23), some (.inl x68), some (.inl x122)] rfl rfl ?_
              have k124 := (hp120.k hO22 rfl (by omega))
              have t125 : gI h121 73 a1.toInt = gI h22 73 a1.toInt := k124.1 73 (by decide) (by decide) _ (by omega) (by omega)
              have t126 : gI h121 74 a1.toInt = gI h22 74 a1.toInt := k124.1 74 (by decide) (by decide) _ (by omega) (by omega)
              have t127 : gI h121 75 a1.toInt = gI h22 75 a1.toInt := k124.1 75 (by decide) (by decide) _ (by omega) (by omega)
              have t128 : gI h121 76 a1.toInt = gI h22 76 a1.toInt := k124.1 76 (by decide) (by decide) _ (by omega) (by omega)
              refine ur_ldA rfl rfl ?_
              refine ur_ldI rfl rfl ?_
              refine ur_ldA rfl rfl ?_
              obtain ⟨fs129, hc130⟩ := hO121.mod
              refine ur_get rfl hc130 (mf_6 hO121 hc130) ?_
              refine ur_ldI rfl rfl ?_
              obtain ⟨xs132, hc131, hn133, he134⟩ := hO121.int (hO121.fix 73 (by decide) rfl)
              refine ur_aldV rfl hc131 hn133 (by omega) (fun x135 hx136 => ?_)
              have t137 := gI_of (j := a1) hc131 hx136
              refine ur_push rfl ?_
              refine ur_binV rfl (fun x138 e139 => ?_)
              have z140 := any_r x135
              have t141 := ti_sub e139 (by omega) (by omega)
              refine ur_ldA rfl rfl ?_
              refine ur_get rfl hc130 (mf_7 hO121 hc130) ?_
              refine ur_ldI rfl rfl ?_
              obtain ⟨xs143, hc142, hn144, he145⟩ := hO121.int (hO121.fix 74 (by decide) rfl)
              refine ur_aldV rfl hc142 hn144 (by omega) (fun x146 hx147 => ?_)
              have t148 := gI_of (j := a1) hc142 hx147
              refine ur_push rfl ?_
              refine ur_binV rfl (fun x149 e150 => ?_)
              have z151 := any_r x146
              have t152 := ti_add e150 (by omega) (by omega)
              refine ur_push rfl ?_
              refine ur_divV rfl (by decide) (fun x153 e154 => ?_)
              have z155 := any_r x149
              have t156 := ti_rem e154 l_360 (by decide) (by omega)
              refine ur_ldA rfl rfl ?_
              refine ur_get rfl hc130 (mf_8 hO121 hc130) ?_
              refine ur_ldI rfl rfl ?_
              obtain ⟨xs158, hc157, hn159, he160⟩ := hO121.int (hO121.fix 75 (by decide) rfl)
              refine ur_aldV rfl hc157 hn159 (by omega) (fun x161 hx162 => ?_)
              have t163 := gI_of (j := a1) hc157 hx162
              have t164 : 0 ≤ x161.toInt ∧ x161.toInt ≤ 99 := he160 _ _ hx162
              have t165 := SX.rx (j := a1) hp118 hc157 hx162 (by omega)
              refine ur_ldA rfl rfl ?_
              refine ur_get rfl hc130 (mf_9 hO121 hc130) ?_
              refine ur_ldI rfl rfl ?_
              obtain ⟨xs167, hc166, hn168, he169⟩ := hO121.int (hO121.fix 76 (by decide) rfl)
              refine ur_aldV rfl hc166 hn168 (by omega) (fun x170 hx171 => ?_)
              have t172 := gI_of (j := a1) hc166 hx171
              refine ur_ldI rfl rfl ?_
              refine ur_ldI rfl rfl ?_
              obtain ⟨f173, p174, t175⟩ := mf_4 hO121 hc130
              have t176 := fI_of hc130 p174
              refine ur_inl rfl (rcv_of hc130) (Nat.le_of_ble_eq_true rfl) (Nat.le_of_ble_eq_true rfl) (sd_X12_newComet hO121 hp118 _ (by show 0 ≤ x23.toInt ∧ x23.toInt ≤ 999999; omega) _ _ _ (by show 5 ≤ x161.toInt ∧ x161.toInt ≤ 99; omega) _ _ _ (by show -1 ≤ a1.toInt ∧ a1.toInt ≤ 11; omega) hp119 (by omega) (by omega) (by unfold CMr; omega) (fun w177 h183 hr178 hO183 hv183 hp179 hp180 hp181 hp182 => ?_))
              have hu183 : un [72, 73, 74, 75, 76, 77, 78, 79, 80, 81, 7904] h121 h183 := hv183.mono (by decide)
              obtain ⟨x184, rfl, t185⟩ := hr178
              show uRun _ (uCall Mt _) _ 168 (_, [(.inl x184)], _, _, _)
              refine ur_pop rfl rfl ?_
              refine ur_ldA rfl rfl ?_
              obtain ⟨fs186, hc187⟩ := hO183.mod
              refine ur_get rfl hc187 (mf_12 hO183 hc187) ?_
              refine ur_ldI rfl rfl ?_
              refine ur_ldI rfl rfl ?_
              obtain ⟨xs189, hc188, hn190, he191⟩ := hO183.int (hO183.fix 79 (by decide) rfl)
              refine ur_astV (W := [79]) (m := 12) rfl hO183 hc188 (by decide) hn190 (by omega) (any_r _) (Or.inr (Or.inr (wid_fix (by decide) (by decide)))) (fun h194 hO194 hv194 d192 hc193 => ?_)
              have hu194 : un [72, 73, 74, 75, 76, 77, 78, 79, 80, 81, 7904] h183 h194 := hv194.mono (by decide)
              have w195 : wI h183 h194 79 ((arI h183 79).set (a1 : Int32).toInt.toNat a2) := ⟨by rw [arI_of hc193, arI_of hc188], d192⟩
              refine ur_ldI rfl rfl ?_
              obtain ⟨f196, p197, t198⟩ := mf_4 hO194 ((d192 _ (by decide)).trans hc187)
              have t199 := fI_of ((d192 _ (by decide)).trans hc187) p197
              have t200 := fI_keep (k := 4) hO183 hO194 hv194 rfl (by decide)
              exact ur_ret rfl rfl (hQ _ _ ⟨_, rfl, ⟨fun q => absurd (by omega) q, fun _ => ⟨x23.toInt, f24.1, fun q => by exfalso; omega, fun _ => ⟨fun q => by exfalso; omega, fun _ => ⟨fun q => by exfalso; omega, fun _ => ⟨by omega, by omega⟩⟩⟩⟩⟩⟩ hO194 (hu22.tr (hu121.tr (hu183.tr hu194))) (by omega) (hp180.un hO183 hO194 hv194 (by decide)) (SKm.o79 hp181 w195.2) (((((KMs.un hO0 hv22 (by decide)).le (by decide)).tr ((hp120.k hO22 rfl (by omega)).1.le (by decide)) (by omega)).tr ((hp182.k hO121 rfl (by omega)).1.le (by decide)) (by omega)).tr (fun a a0 a1 i _ _ => congrFun (gI_f (d192 a (by omega))) i : KMs 79 h183 h194) (by omega)) (fun _ => ⟨((gI_sq (j := a1.toInt) (am_l (a := 79) hO183 (by decide) rfl (by decide)) w195.1 (by omega) (by omega)).1 (by omega)), (fun i i0 i1 i2 => ((gI_sq (j := i) (am_l (a := 79) hO183 (by decide) rfl (by decide)) w195.1 (by omega) (by omega)).2 (by omega)).trans (((hp182.k hO121 rfl (by omega)).1 79 (by decide) (by decide) i i0 (by omega)).trans (((hp120.k hO22 rfl (by omega)).1 79 (by decide) (by decide) i i0 (by omega)).trans (gI_keep (a := 79) (kd := 0) (n := 12) hO0 hv22 _ (by decide) rfl (by decide) rfl (by decide) (by decide))))), x23.toInt, f24.1, (by obtain ⟨z1, z2, z3, z4, z5, z6, z7, z8⟩ := (hp120.k hO22 rfl (by omega)).2; exact ⟨(((fun i => congrFun (gI_f (w195.2 72 (by decide))) i) (fI h0 4)).trans ((hp182.k hO121 rfl (by omega)).1 72 (by decide) (by decide) _ (by omega) (by omega))).trans ((show gI _ 72 (fI h0 4) = _ from (congrArg _ (by omega)).trans z1).trans rfl), (((fun i => congrFun (gI_f (w195.2 73 (by decide))) i) (fI h0 4)).trans ((hp182.k hO121 rfl (by omega)).1 73 (by decide) (by decide) _ (by omega) (by omega))).trans ((show gI _ 73 (fI h0 4) = _ from (congrArg _ (by omega)).trans z2).trans (by omega)), (((fun i => congrFun (gI_f (w195.2 74 (by decide))) i) (fI h0 4)).trans ((hp182.k hO121 rfl (by omega)).1 74 (by decide) (by decide) _ (by omega) (by omega))).trans ((show gI _ 74 (fI h0 4) = _ from (congrArg _ (by omega)).trans z3).trans (by omega)), (((fun i => congrFun (gI_f (w195.2 75 (by decide))) i) (fI h0 4)).trans ((hp182.k hO121 rfl (by omega)).1 75 (by decide) (by decide) _ (by omega) (by omega))).trans ((show gI _ 75 (fI h0 4) = _ from (congrArg _ (by omega)).trans z4).trans (by omega)), (((fun i => congrFun (gI_f (w195.2 76 (by decide))) i) (fI h0 4)).trans ((hp182.k hO121 rfl (by omega)).1 76 (by decide) (by decide) _ (by omega) (by omega))).trans ((show gI _ 76 (fI h0 4) = _ from (congrArg _ (by omega)).trans z5).trans (by omega)), (((fun i => congrFun (gI_f (w195.2 77 (by decide))) i) (fI h0 4)).trans ((hp182.k hO121 rfl (by omega)).1 77 (by decide) (by decide) _ (by omega) (by omega))).trans ((show gI _ 77 (fI h0 4) = _ from (congrArg _ (by omega)).trans z6).trans (by split <;> omega)), (((fun i => congrFun (gI_f (w195.2 78 (by decide))) i) (fI h0 4)).trans ((hp182.k hO121 rfl (by omega)).1 78 (by decide) (by decide) _ (by omega) (by omega))).trans ((show gI _ 78 (fI h0 4) = _ from (congrArg _ (by omega)).trans z7).trans rfl), (((gI_sq (j := fI h0 4) (am_l (a := 79) hO183 (by decide) rfl (by decide)) w195.1 (by omega) (by omega)).2 (by omega)).trans ((hp182.k hO121 rfl (by omega)).1 79 (by decide) (by decide) _ (by omega) (by omega))).trans ((show gI _ 79 (fI h0 4) = _ from (congrArg _ (by omega)).trans z8).trans (by decide))⟩), (by obtain ⟨z1, z2, z3, z4, z5, z6, z7, z8⟩ := (hp182.k hO121 rfl (by omega)).2; exact ⟨(((fun i => congrFun (gI_f (w195.2 72 (by decide))) i) (fI h0 4 + 1))).trans ((show gI _ 72 (fI h0 4 + 1) = _ from (congrArg _ (by omega)).trans z1).trans rfl), (((fun i => congrFun (gI_f (w195.2 73 (by decide))) i) (fI h0 4 + 1))).trans ((show gI _ 73 (fI h0 4 + 1) = _ from (congrArg _ (by omega)).trans z2).trans (by omega)), (((fun i => congrFun (gI_f (w195.2 74 (by decide))) i) (fI h0 4 + 1))).trans ((show gI _ 74 (fI h0 4 + 1) = _ from (congrArg _ (by omega)).trans z3).trans (by omega)), (((fun i => congrFun (gI_f (w195.2 75 (by decide))) i) (fI h0 4 + 1))).trans ((show gI _ 75 (fI h0 4 + 1) = _ from (congrArg _ (by omega)).trans z4).trans (by omega)), (((fun i => congrFun (gI_f (w195.2 76 (by decide))) i) (fI h0 4 + 1))).trans ((show gI _ 76 (fI h0 4 + 1) = _ from (congrArg _ (by omega)).trans z5).trans (by omega)), (((fun i => congrFun (gI_f (w195.2 77 (by decide))) i) (fI h0 4 + 1))).trans ((show gI _ 77 (fI h0 4 + 1) = _ from (congrArg _ (by omega)).trans z6).trans (by split <;> omega)), (((fun i => congrFun (gI_f (w195.2 78 (by decide))) i) (fI h0 4 + 1))).trans ((show gI _ 78 (fI h0 4 + 1) = _ from (congrArg _ (by omega)).trans z7).trans rfl), (((gI_sq (j := fI h0 4 + 1) (am_l (a := 79) hO183 (by decide) rfl (by decide)) w195.1 (by omega) (by omega)).2 (by omega))).trans ((show gI _ 79 (fI h0 4 + 1) = _ from (congrArg _ (by omega)).trans z8).trans (by decide))⟩)⟩) (fun q => by exfalso; omega))
            · have t201 := ne_no c64
              refine ur_push rfl ?_
              refine ur_go rfl ?_
              refine ur_svIk [some (.inr (.inr (some 69))), some (.inl a1), some (.inl a2), some (.inl x23), some (.inl 0), none] rfl rfl ?_
              refine ur_ldA rfl rfl ?_
              refine ur_ldI rfl rfl ?_
              refine ur_ldA rfl rfl ?_
              refine ur_get rfl hc37 (mf_6 hO22 hc37) ?_
              refine ur_ldI rfl rfl ?_
              obtain ⟨xs203, hc202, hn204, he205⟩ := hO22.int (hO22.fix 73 (by decide) rfl)
              refine ur_aldV rfl hc202 hn204 (by omega) (fun x206 hx207 => ?_)
              have t208 := gI_of (j := a1) hc202 hx207
              refine ur_push rfl ?_
              refine ur_binV rfl (fun x209 e210 => ?_)
              have z211 := any_r x206
              have t212 := ti_add e210 (by omega) (by omega)
              refine ur_ldA rfl rfl ?_
              refine ur_get rfl hc37 (mf_7 hO22 hc37) ?_
              refine ur_ldI rfl rfl ?_
              obtain ⟨xs214, hc213, hn215, he216⟩ := hO22.int (hO22.fix 74 (by decide) rfl)
              refine ur_aldV rfl hc213 hn215 (by omega) (fun x217 hx218 => ?_)
              have t219 := gI_of (j := a1) hc213 hx218
              refine ur_push rfl ?_
              refine ur_binV rfl (fun x220 e221 => ?_)
              have z222 := any_r x217
              have t223 := ti_add e221 (by omega) (by omega)
              refine ur_push rfl ?_
              refine ur_divV rfl (by decide) (fun x224 e225 => ?_)
              have z226 := any_r x220
              have t227 := ti_rem e225 l_360 (by decide) (by omega)
              refine ur_ldA rfl rfl ?_
              refine ur_get rfl hc37 (mf_8 hO22 hc37) ?_
              refine ur_ldI rfl rfl ?_
              obtain ⟨xs229, hc228, hn230, he231⟩ := hO22.int (hO22.fix 75 (by decide) rfl)
              refine ur_aldV rfl hc228 hn230 (by omega) (fun x232 hx233 => ?_)
              have t234 := gI_of (j := a1) hc228 hx233
              have t235 : 0 ≤ x232.toInt ∧ x232.toInt ≤ 99 := he231 _ _ hx233
              have t236 := fI_keep (k := 4) hO0 hO22 hv22 rfl (by decide)
              have t237 := SX.rx (j := a1) (hX0.un hO0 hO22 hv22 (by decide)) hc228 hx233 (by omega)
              refine ur_ldA rfl rfl ?_
              refine ur_get rfl hc37 (mf_9 hO22 hc37) ?_
              refine ur_ldI rfl rfl ?_
              obtain ⟨xs239, hc238, hn240, he241⟩ := hO22.int (hO22.fix 76 (by decide) rfl)
              refine ur_aldV rfl hc238 hn240 (by omega) (fun x242 hx243 => ?_)
              have t244 := gI_of (j := a1) hc238 hx243
              refine ur_ldI rfl rfl ?_
              refine ur_ldI rfl rfl ?_
              refine ur_inl rfl (rcv_of hc37) (Nat.le_of_ble_eq_true rfl) (Nat.le_of_ble_eq_true rfl) (sd_X12_newComet hO22 (hX0.un hO0 hO22 hv22 (by decide)) _ (by show 0 ≤ x23.toInt ∧ x23.toInt ≤ 999999; omega) _ _ _ (by show 5 ≤ x232.toInt ∧ x232.toInt ≤ 99; omega) _ _ _ (by show -1 ≤ a1.toInt ∧ a1.toInt ≤ 11; omega) hp21 (by omega) (by omega) (by unfold CMr; omega) (fun w245 h251 hr246 hO251 hv251 hp247 hp248 hp249 hp250 => ?_))
              have hu251 : un [72, 73, 74, 75, 76, 77, 78, 79, 80, 81, 7904] h22 h251 := hv251.mono (by decide)
              obtain ⟨x252, rfl, t253⟩ := hr246
              show uRun _ (uCall Mt _) _ 123 (_, [(.inl x252)], _, _, _)
              refine ur_svIk [some (.inr (.inr (some 69))), some (.inl a1), some (.inl a2), some (.inl x23), some (.inl 0), some (.inl x252)] rfl rfl ?_
              have k254 := (hp250.k hO22 rfl (by omega))
              have t255 : gI h251 73 a1.toInt = gI h22 73 a1.toInt := k254.1 73 (by decide) (by decide) _ (by omega) (by omega)
              have t256 : gI h251 74 a1.toInt = gI h22 74 a1.toInt := k254.1 74 (by decide) (by decide) _ (by omega) (by omega)
              have t257 : gI h251 75 a1.toInt = gI h22 75 a1.toInt := k254.1 75 (by decide) (by decide) _ (by omega) (by omega)
              have t258 : gI h251 76 a1.toInt = gI h22 76 a1.toInt := k254.1 76 (by decide) (by decide) _ (by omega) (by omega)
              refine ur_ldA rfl rfl ?_
              refine ur_ldI rfl rfl ?_
              refine ur_ldA rfl rfl ?_
              obtain ⟨fs259, hc260⟩ := hO251.mod
              refine ur_get rfl hc260 (mf_6 hO251 hc260) ?_
              refine ur_ldI rfl rfl ?_
              obtain ⟨xs262, hc261, hn263, he264⟩ := hO251.int (hO251.fix 73 (by decide) rfl)
              refine ur_aldV rfl hc261 hn263 (by omega) (fun x265 hx266 => ?_)
              have t267 := gI_of (j := a1) hc261 hx266
              refine ur_push rfl ?_
              refine ur_binV rfl (fun x268 e269 => ?_)
              have z270 := any_r x265
              have t271 := ti_sub e269 (by omega) (by omega)
              refine ur_ldA rfl rfl ?_
              refine ur_get rfl hc260 (mf_7 hO251 hc260) ?_
              refine ur_ldI rfl rfl ?_
              obtain ⟨xs273, hc272, hn274, he275⟩ := hO251.int (hO251.fix 74 (by decide) rfl)
              refine ur_aldV rfl hc272 hn274 (by omega) (fun x276 hx277 => ?_)
              have t278 := gI_of (j := a1) hc272 hx277
              refine ur_push rfl ?_
              refine ur_binV rfl (fun x279 e280 => ?_)
              have z281 := any_r x276
              have t282 := ti_add e280 (by omega) (by omega)
              refine ur_push rfl ?_
              refine ur_divV rfl (by decide) (fun x283 e284 => ?_)
              have z285 := any_r x279
              have t286 := ti_rem e284 l_360 (by decide) (by omega)
              refine ur_ldA rfl rfl ?_
              refine ur_get rfl hc260 (mf_8 hO251 hc260) ?_
              refine ur_ldI rfl rfl ?_
              obtain ⟨xs288, hc287, hn289, he290⟩ := hO251.int (hO251.fix 75 (by decide) rfl)
              refine ur_aldV rfl hc287 hn289 (by omega) (fun x291 hx292 => ?_)
              have t293 := gI_of (j := a1) hc287 hx292
              have t294 : 0 ≤ x291.toInt ∧ x291.toInt ≤ 99 := he290 _ _ hx292
              have t295 := SX.rx (j := a1) hp248 hc287 hx292 (by omega)
              refine ur_ldA rfl rfl ?_
              refine ur_get rfl hc260 (mf_9 hO251 hc260) ?_
              refine ur_ldI rfl rfl ?_
              obtain ⟨xs297, hc296, hn298, he299⟩ := hO251.int (hO251.fix 76 (by decide) rfl)
              refine ur_aldV rfl hc296 hn298 (by omega) (fun x300 hx301 => ?_)
              have t302 := gI_of (j := a1) hc296 hx301
              refine ur_ldI rfl rfl ?_
              refine ur_ldI rfl rfl ?_
              obtain ⟨f303, p304, t305⟩ := mf_4 hO251 hc260
              have t306 := fI_of hc260 p304
              refine ur_inl rfl (rcv_of hc260) (Nat.le_of_ble_eq_true rfl) (Nat.le_of_ble_eq_true rfl) (sd_X12_newComet hO251 hp248 _ (by show 0 ≤ x23.toInt ∧ x23.toInt ≤ 999999; omega) _ _ _ (by show 5 ≤ x291.toInt ∧ x291.toInt ≤ 99; omega) _ _ _ (by show -1 ≤ a1.toInt ∧ a1.toInt ≤ 11; omega) hp249 (by omega) (by omega) (by unfold CMr; omega) (fun w307 h313 hr308 hO313 hv313 hp309 hp310 hp311 hp312 => ?_))
              have hu313 : un [72, 73, 74, 75, 76, 77, 78, 79, 80, 81, 7904] h251 h313 := hv313.mono (by decide)
              obtain ⟨x314, rfl, t315⟩ := hr308
              show uRun _ (uCall Mt _) _ 168 (_, [(.inl x314)], _, _, _)
              refine ur_pop rfl rfl ?_
              refine ur_ldA rfl rfl ?_
              obtain ⟨fs316, hc317⟩ := hO313.mod
              refine ur_get rfl hc317 (mf_12 hO313 hc317) ?_
              refine ur_ldI rfl rfl ?_
              refine ur_ldI rfl rfl ?_
              obtain ⟨xs319, hc318, hn320, he321⟩ := hO313.int (hO313.fix 79 (by decide) rfl)
              refine ur_astV (W := [79]) (m := 12) rfl hO313 hc318 (by decide) hn320 (by omega) (any_r _) (Or.inr (Or.inr (wid_fix (by decide) (by decide)))) (fun h324 hO324 hv324 d322 hc323 => ?_)
              have hu324 : un [72, 73, 74, 75, 76, 77, 78, 79, 80, 81, 7904] h313 h324 := hv324.mono (by decide)
              have w325 : wI h313 h324 79 ((arI h313 79).set (a1 : Int32).toInt.toNat a2) := ⟨by rw [arI_of hc323, arI_of hc318], d322⟩
              refine ur_ldI rfl rfl ?_
              obtain ⟨f326, p327, t328⟩ := mf_4 hO324 ((d322 _ (by decide)).trans hc317)
              have t329 := fI_of ((d322 _ (by decide)).trans hc317) p327
              have t330 := fI_keep (k := 4) hO313 hO324 hv324 rfl (by decide)
              exact ur_ret rfl rfl (hQ _ _ ⟨_, rfl, ⟨fun q => absurd (by omega) q, fun _ => ⟨x23.toInt, f24.1, fun q => by exfalso; omega, fun _ => ⟨fun q => by exfalso; omega, fun _ => ⟨fun q => by exfalso; omega, fun _ => ⟨by omega, by omega⟩⟩⟩⟩⟩⟩ hO324 (hu22.tr (hu251.tr (hu313.tr hu324))) (by omega) (hp310.un hO313 hO324 hv324 (by decide)) (SKm.o79 hp311 w325.2) (((((KMs.un hO0 hv22 (by decide)).le (by decide)).tr ((hp250.k hO22 rfl (by omega)).1.le (by decide)) (by omega)).tr ((hp312.k hO251 rfl (by omega)).1.le (by decide)) (by omega)).tr (fun a a0 a1 i _ _ => congrFun (gI_f (d322 a (by omega))) i : KMs 79 h313 h324) (by omega)) (fun _ => ⟨((gI_sq (j := a1.toInt) (am_l (a := 79) hO313 (by decide) rfl (by decide)) w325.1 (by omega) (by omega)).1 (by omega)), (fun i i0 i1 i2 => ((gI_sq (j := i) (am_l (a := 79) hO313 (by decide) rfl (by decide)) w325.1 (by omega) (by omega)).2 (by omega)).trans (((hp312.k hO251 rfl (by omega)).1 79 (by decide) (by decide) i i0 (by omega)).trans (((hp250.k hO22 rfl (by omega)).1 79 (by decide) (by decide) i i0 (by omega)).trans (gI_keep (a := 79) (kd := 0) (n := 12) hO0 hv22 _ (by decide) rfl (by decide) rfl (by decide) (by decide))))), x23.toInt, f24.1, (by obtain ⟨z1, z2, z3, z4, z5, z6, z7, z8⟩ := (hp250.k hO22 rfl (by omega)).2; exact ⟨(((fun i => congrFun (gI_f (w325.2 72 (by decide))) i) (fI h0 4)).trans ((hp312.k hO251 rfl (by omega)).1 72 (by decide) (by decide) _ (by omega) (by omega))).trans ((show gI _ 72 (fI h0 4) = _ from (congrArg _ (by omega)).trans z1).trans rfl), (((fun i => congrFun (gI_f (w325.2 73 (by decide))) i) (fI h0 4)).trans ((hp312.k hO251 rfl (by omega)).1 73 (by decide) (by decide) _ (by omega) (by omega))).trans ((show gI _ 73 (fI h0 4) = _ from (congrArg _ (by omega)).trans z2).trans (by omega)), (((fun i => congrFun (gI_f (w325.2 74 (by decide))) i) (fI h0 4)).trans ((hp312.k hO251 rfl (by omega)).1 74 (by decide) (by decide) _ (by omega) (by omega))).trans ((show gI _ 74 (fI h0 4) = _ from (congrArg _ (by omega)).trans z3).trans (by omega)), (((fun i => congrFun (gI_f (w325.2 75 (by decide))) i) (fI h0 4)).trans ((hp312.k hO251 rfl (by omega)).1 75 (by decide) (by decide) _ (by omega) (by omega))).trans ((show gI _ 75 (fI h0 4) = _ from (congrArg _ (by omega)).trans z4).trans (by omega)), (((fun i => congrFun (gI_f (w325.2 76 (by decide))) i) (fI h0 4)).trans ((hp312.k hO251 rfl (by omega)).1 76 (by decide) (by decide) _ (by omega) (by omega))).trans ((show gI _ 76 (fI h0 4) = _ from (congrArg _ (by omega)).trans z5).trans (by omega)), (((fun i => congrFun (gI_f (w325.2 77 (by decide))) i) (fI h0 4)).trans ((hp312.k hO251 rfl (by omega)).1 77 (by decide) (by decide) _ (by omega) (by omega))).trans ((show gI _ 77 (fI h0 4) = _ from (congrArg _ (by omega)).trans z6).trans (by split <;> omega)), (((fun i => congrFun (gI_f (w325.2 78 (by decide))) i) (fI h0 4)).trans ((hp312.k hO251 rfl (by omega)).1 78 (by decide) (by decide) _ (by omega) (by omega))).trans ((show gI _ 78 (fI h0 4) = _ from (congrArg _ (by omega)).trans z7).trans rfl), (((gI_sq (j := fI h0 4) (am_l (a := 79) hO313 (by decide) rfl (by decide)) w325.1 (by omega) (by omega)).2 (by omega)).trans ((hp312.k hO251 rfl (by omega)).1 79 (by decide) (by decide) _ (by omega) (by omega))).trans ((show gI _ 79 (fI h0 4) = _ from (congrArg _ (by omega)).trans z8).trans (by decide))⟩), (by obtain ⟨z1, z2, z3, z4, z5, z6, z7, z8⟩ := (hp312.k hO251 rfl (by omega)).2; exact ⟨(((fun i => congrFun (gI_f (w325.2 72 (by decide))) i) (fI h0 4 + 1))).trans ((show gI _ 72 (fI h0 4 + 1) = _ from (congrArg _ (by omega)).trans z1).trans rfl), (((fun i => congrFun (gI_f (w325.2 73 (by decide))) i) (fI h0 4 + 1))).trans ((show gI _ 73 (fI h0 4 + 1) = _ from (congrArg _ (by omega)).trans z2).trans (by omega)), (((fun i => congrFun (gI_f (w325.2 74 (by decide))) i) (fI h0 4 + 1))).trans ((show gI _ 74 (fI h0 4 + 1) = _ from (congrArg _ (by omega)).trans z3).trans (by omega)), (((fun i => congrFun (gI_f (w325.2 75 (by decide))) i) (fI h0 4 + 1))).trans ((show gI _ 75 (fI h0 4 + 1) = _ from (congrArg _ (by omega)).trans z4).trans (by omega)), (((fun i => congrFun (gI_f (w325.2 76 (by decide))) i) (fI h0 4 + 1))).trans ((show gI _ 76 (fI h0 4 + 1) = _ from (congrArg _ (by omega)).trans z5).trans (by omega)), (((fun i => congrFun (gI_f (w325.2 77 (by decide))) i) (fI h0 4 + 1))).trans ((show gI _ 77 (fI h0 4 + 1) = _ from (congrArg _ (by omega)).trans z6).trans (by split <;> omega)), (((fun i => congrFun (gI_f (w325.2 78 (by decide))) i) (fI h0 4 + 1))).trans ((show gI _ 78 (fI h0 4 + 1) = _ from (congrArg _ (by omega)).trans z7).trans rfl), (((gI_sq (j := fI h0 4 + 1) (am_l (a := 79) hO313 (by decide) rfl (by decide)) w325.1 (by omega) (by omega)).2 (by omega))).trans ((show gI _ 79 (fI h0 4 + 1) = _ from (congrArg _ (by omega)).trans z8).trans (by decide))⟩)⟩) (fun q => by exfalso; omega))
          · have t331 := le_no c55
            refine ur_push rfl ?_
            have t332 := fI_keep (k := 4) hO0 hO22 hv22 rfl (by decide)
            exact ur_ret rfl rfl (hQ _ _ ⟨_, rfl, ⟨fun q => absurd (by omega) q, fun _ => ⟨x23.toInt, f24.1, fun q => by exfalso; omega, fun _ => ⟨fun q => by exfalso; omega, fun _ => ⟨fun _ => ⟨by omega, by omega⟩, fun q => by exfalso; omega⟩⟩⟩⟩⟩ hO22 hu22 (by omega) (hX0.un hO0 hO22 hv22 (by decide)) hp21 ((KMs.un hO0 hv22 (by decide)).le (by decide)) (fun q => by exfalso; omega) (fun _ => (KMs.un hO0 hv22 (by decide))))
        · have t333 := eq_no c45
          refine ur_push rfl ?_
          obtain ⟨f334, p335, t336⟩ := mf_4 hO22 hc37
          have t337 := fI_of hc37 p335
          have t338 := fI_keep (k := 4) hO0 hO22 hv22 rfl (by decide)
          exact ur_ret rfl rfl (hQ _ _ ⟨_, rfl, ⟨fun q => absurd (by omega) q, fun _ => ⟨x23.toInt, f24.1, fun q => by exfalso; omega, fun _ => ⟨fun _ => ⟨by omega, by omega⟩, fun q => by exfalso; omega⟩⟩⟩⟩ hO22 hu22 (by omega) (hX0.un hO0 hO22 hv22 (by decide)) hp21 ((KMs.un hO0 hv22 (by decide)).le (by decide)) (fun q => by exfalso; omega) (fun _ => (KMs.un hO0 hv22 (by decide))))
      · have t339 := le_no c34
        refine ur_push rfl ?_
        obtain ⟨fs340, hc341⟩ := hO22.mod
        obtain ⟨f342, p343, t344⟩ := mf_4 hO22 hc341
        have t345 := fI_of hc341 p343
        have t346 := fI_keep (k := 4) hO0 hO22 hv22 rfl (by decide)
        exact ur_ret rfl rfl (hQ _ _ ⟨_, rfl, ⟨fun q => absurd (by omega) q, fun _ => ⟨x23.toInt, f24.1, fun _ => ⟨by omega, by omega⟩, fun q => by exfalso; omega⟩⟩⟩ hO22 hu22 (by omega) (hX0.un hO0 hO22 hv22 (by decide)) hp21 ((KMs.un hO0 hv22 (by decide)).le (by decide)) (fun q => by exfalso; omega) (fun _ => (KMs.un hO0 hv22 (by decide))))
    · have t347 := wi_noL c17 l_m60 l_60
      refine ur_push rfl ?_
      exact ur_ret rfl rfl (hQ _ _ ⟨_, rfl, ⟨fun _ => ⟨by omega, by omega⟩, fun q => by exfalso; omega⟩⟩ hO0 un.rf (by omega) hX0 pre0 KMs.rf (fun q => by exfalso; omega) (fun _ => KMs.rf))
end SKY9
