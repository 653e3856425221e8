/-! CONTRACTS of the class, printed by program -/
section CT1
set_option maxRecDepth 20000 in
set_option maxHeartbeats 4000000 in
theorem sf_X0_clear {d kc ks : Nat} {h0 : aH} {Q : Option aV → aH → Prop} (hO0 : OK h0)  (hQ : ∀ r h', (r = none) → OK h' → un [6501] h0 h' → (fO h' 55 1 = 0) → Q r h') : uCall Mt (d + 1) 1 [(.inr (.inr (some 55)))] h0 kc ks Q := by
  have l_0 : ((0) : Int32).toInt = 0 := by decide
  refine uc_ink [some (.inr (.inr (some 55)))] mt_1 (Nat.le_of_ble_eq_true rfl) rfl ?_
  obtain ⟨f2, hc1, k3⟩ := ok_55 hO0
  have t4 := fO_of (k := 1) hc1 rfl
  refine ur_ldA rfl rfl ?_
  refine ur_push rfl ?_
  refine ur_putV (W := [6501]) (fs' := [(.inr (.inr (some 56))), (.inl 0)]) rfl hO0 hc1 (Nat.le_of_ble_eq_true rfl) rfl rfl ⟨rfl, _, rfl, by omega⟩ rfl (Or.inr (by show 1000 + 100 * wid 55 (100, 2) + 1 ∈ _; rw [(wid_f (by decide))]; decide)) (fun h6 hO6 hu6 d5 hc7 => ?_)
  have t8 := fO_of (k := 1) hc7 rfl
  exact ur_ret0 rfl (hQ _ _ rfl hO6 hu6 (by omega))

set_option maxRecDepth 20000 in
set_option maxHeartbeats 4000000 in
theorem sf_X11_apart {d kc ks : Nat} {h0 : aH} {Q : Option aV → aH → Prop} (a0 : Int32) (a1 : Int32) (hQ : ∀ r, (∃ x, r = some (.inl x)) → Q r h0) : uCall Mt (d + 1) 179 [(.inl a0), (.inl a1)] h0 kc ks Q := by
  have l_360 : ((360) : Int32).toInt = 360 := by decide
  refine uc_ink [some (.inl a0), some (.inl a1), none] mt_179 (Nat.le_of_ble_eq_true rfl) rfl ?_
  refine ur_ldI rfl rfl ?_
  refine ur_ldI rfl rfl ?_
  refine ur_binV rfl (fun x1 e2 => ?_)
  have z3 := any_r a0
  have z4 := any_r a1
  refine ur_absV rfl (by show ¬ 9 ≤ 1; decide) (fun x5 t6 e7 => ?_)
  refine ur_push rfl ?_
  refine ur_divV rfl (by decide) (fun x8 e9 => ?_)
  have z10 := any_r x5
  have t11 : 0 ≤ x5.toInt → x8.toInt = x5.toInt % 360 := fun q => ti_rem e9 l_360 (by decide) q
  refine ur_svIk [some (.inl a0), some (.inl a1), some (.inl x8)] rfl rfl ?_
  refine ur_ldI rfl rfl ?_
  refine ur_push rfl ?_
  refine ur_ldI rfl rfl ?_
  refine ur_binV rfl (fun x12 e13 => ?_)
  have z14 := any_r x8
  refine ur_minV rfl (by show ¬ 9 ≤ 2; decide) (fun x15 t16 e17 => ?_)
  exact ur_ret rfl rfl (hQ _ ⟨_, rfl⟩ )

set_option maxRecDepth 20000 in
set_option maxHeartbeats 4000000 in
theorem sf_X11_turned {d kc ks : Nat} {h0 : aH} {Q : Option aV → aH → Prop} (a0 : Int32) (a1 : Int32) (a2 : Int32) (hQ : ∀ r, (∃ x, r = some (.inl x)) → Q r h0) : uCall Mt (d + 1) 182 [(.inl a0), (.inl a1), (.inl a2)] h0 kc ks Q := by
  have l_0 : ((0) : Int32).toInt = 0 := by decide
  have l_90 : ((90) : Int32).toInt = 90 := by decide
  refine uc_ink [some (.inl a0), some (.inl a1), some (.inl a2), none] mt_182 (Nat.le_of_ble_eq_true rfl) rfl ?_
  refine ur_ldI rfl rfl ?_
  refine ur_absV rfl (by show ¬ 9 ≤ 1; decide) (fun x1 t2 e3 => ?_)
  refine ur_ldI rfl rfl ?_
  refine ur_binV rfl (fun x4 e5 => ?_)
  have z6 := any_r x1
  have z7 := any_r a2
  refine ur_svIk [some (.inl a0), some (.inl a1), some (.inl a2), some (.inl x4)] rfl rfl ?_
  refine ur_ldI rfl rfl ?_
  refine ur_if1 rfl (fun c8 => ?_) (fun c8 => ?_)
  · have t9 := ne_to c8
    refine ur_ldI rfl rfl ?_
    refine ur_push rfl ?_
    refine ur_binV rfl (fun x10 e11 => ?_)
    have z12 := any_r a0
    refine ur_ldI rfl rfl ?_
    refine ur_binV rfl (fun x13 e14 => ?_)
    have z15 := any_r x10
    have z16 := any_r a1
    refine ur_ldI rfl rfl ?_
    refine ur_divV rfl (of_decide_eq_true c8) (fun x17 e18 => ?_)
    have z19 := any_r x13
    have z20 := any_r x4
    exact ur_ret rfl rfl (hQ _ ⟨_, rfl⟩ )
  · have t21 := ne_no c8
    refine ur_push rfl ?_
    refine ur_go rfl ?_
    exact ur_ret rfl rfl (hQ _ ⟨_, rfl⟩ )

set_option maxRecDepth 20000 in
set_option maxHeartbeats 4000000 in
theorem sf_X3_nodeOf {d kc ks : Nat} {h0 : aH} {Q : Option aV → aH → Prop} (hO0 : OK h0) (a1 : Int32) (a2 : Int32) (a3 : Int32) (a4 : Int32) (hQ : ∀ r, (∃ x, r = some (.inl x)) → Q r h0) : uCall Mt (d + 3) 29 [(.inr (.inr (some 52))), (.inl a1), (.inl a2), (.inl a3), (.inl a4)] h0 kc ks Q := by
  have l_m120 : ((-120) : Int32).toInt = -120 := by decide
  have l_m1 : ((-1) : Int32).toInt = -1 := by decide
  have l_0 : ((0) : Int32).toInt = 0 := by decide
  have l_1 : ((1) : Int32).toInt = 1 := by decide
  have l_120 : ((120) : Int32).toInt = 120 := by decide
  have l_360 : ((360) : Int32).toInt = 360 := by decide
  have l_720 : ((720) : Int32).toInt = 720 := by decide
  refine uc_ink [some (.inr (.inr (some 52))), some (.inl a1), some (.inl a2), some (.inl a3), some (.inl a4), none, none, none, none] mt_29 (Nat.le_of_ble_eq_true rfl) rfl ?_
  refine ur_ldA rfl rfl ?_
  obtain ⟨f2, hc1, k3⟩ := ok_52 hO0
  refine ur_get rfl hc1 rfl ?_
  refine ur_push rfl ?_
  obtain ⟨xs5, hc4, hn6, he7⟩ := hO0.int (hO0.fix 54 (by decide) rfl)
  refine ur_aldV rfl hc4 hn6 (by omega) (fun x8 hx9 => ?_)
  refine ur_ldI rfl rfl ?_
  refine ur_ldA rfl rfl ?_
  refine ur_get rfl hc1 rfl ?_
  refine ur_push rfl ?_
  obtain ⟨xs11, hc10, hn12, he13⟩ := hO0.int (hO0.fix 53 (by decide) rfl)
  refine ur_aldV rfl hc10 hn12 (by omega) (fun x14 hx15 => ?_)
  refine ur_ldI rfl rfl ?_
  refine ur_binV rfl (fun x16 e17 => ?_)
  have z18 := any_r x14
  have z19 := any_r a1
  refine ur_ldI rfl rfl ?_
  refine ur_inl rfl rfl (Nat.le_of_ble_eq_true rfl) (Nat.le_of_ble_eq_true rfl) (sf_X11_turned _ _ _ (fun w20 hr21 => ?_))
  obtain ⟨x22, rfl⟩ := hr21
  show uRun _ (uCall Mt _) _ 19 (_, [(.inl x22), (.inl x8)], _, _, _)
  refine ur_binV rfl (fun x23 e24 => ?_)
  have z25 := any_r x8
  have z26 := any_r x22
  refine ur_push rfl ?_
  refine ur_binV rfl (fun x27 e28 => ?_)
  have z29 := any_r x23
  refine ur_push rfl ?_
  refine ur_divV rfl (by decide) (fun x30 e31 => ?_)
  have z32 := any_r x27
  have t33 : 0 ≤ x27.toInt → x30.toInt = x27.toInt % 360 := fun q => ti_rem e31 l_360 (by decide) q
  refine ur_svIk [some (.inr (.inr (some 52))), some (.inl a1), some (.inl a2), some (.inl a3), some (.inl a4), some (.inl x30), none, none, none] rfl rfl ?_
  refine ur_push rfl ?_
  refine ur_svIk [some (.inr (.inr (some 52))), some (.inl a1), some (.inl a2), some (.inl a3), some (.inl a4), some (.inl x30), some (.inl 0), none, none] rfl rfl ?_
  have L37 : ∀ (m38 : Nat) (x34 : Int32) (u35 : Option aV) (u36 : Option aV) , ((0 ≤ x34.toInt ∧ x34.toInt ≤ 2147483647)) → ((2147483648 - x34.toInt).toNat) < m38 → uRun oX3_nodeOf (uCall Mt (d + 2)) Q 33 ([some (.inr (.inr (some 52))), some (.inl a1), some (.inl a2), some (.inl a3), some (.inl a4), some (.inl x30), some (.inl x34), u35, u36], [], h0, kc, ks) := by
    intro m38
    induction m38 with
    | zero => intro x34 u35 u36 iv40 mm41; omega
    | succ m38 ih39 =>
      intro x34 u35 u36 iv40 mm41
      refine ur_ldI rfl rfl ?_
      refine ur_ldA rfl rfl ?_
      refine ur_get rfl hc1 rfl ?_
      have z42 := any_r x34
      have z43 := any_r f2
      refine ur_if2 rfl (fun c44 => ?_) (fun c44 => ?_)
      · have t45 := le_to c44
        refine ur_ldI rfl rfl ?_
        exact ur_ret rfl rfl (hQ _ ⟨_, rfl⟩ )
      · have t46 := le_no c44
        refine ur_ldA rfl rfl ?_
        refine ur_get rfl hc1 rfl ?_
        refine ur_ldI rfl rfl ?_
        refine ur_aldV rfl hc10 hn12 (by omega) (fun x47 hx48 => ?_)
        refine ur_ldI rfl rfl ?_
        refine ur_binV rfl (fun x49 e50 => ?_)
        have z51 := any_r x47
        refine ur_svIk [some (.inr (.inr (some 52))), some (.inl a1), some (.inl a2), some (.inl a3), some (.inl a4), some (.inl x30), some (.inl x34), some (.inl x49), u36] rfl rfl ?_
        refine ur_ldI rfl rfl ?_
        refine ur_callv rfl rfl (Nat.le_of_ble_eq_true rfl) (Nat.le_of_ble_eq_true rfl) rfl (sp_isFar _ _) ?_
        refine ur_eqB rfl (fun c54 => ?_) (fun c54 => ?_)
        · have t55 := wi_toL (bnot_t c54) l_m120 l_120
          refine ur_ldI rfl rfl ?_
          refine ur_ldI rfl rfl ?_
          refine ur_ldI rfl rfl ?_
          refine ur_ldI rfl rfl ?_
          refine ur_inl rfl rfl (Nat.le_of_ble_eq_true rfl) (Nat.le_of_ble_eq_true rfl) (sf_X11_turned _ _ _ (fun w56 hr57 => ?_))
          obtain ⟨x58, rfl⟩ := hr57
          show uRun _ (uCall Mt _) _ 72 (_, [(.inl x58), (.inl x30)], _, _, _)
          refine ur_binV rfl (fun x59 e60 => ?_)
          have z61 := any_r x30
          have z62 := any_r x58
          refine ur_push rfl ?_
          refine ur_binV rfl (fun x63 e64 => ?_)
          have z65 := any_r x59
          refine ur_push rfl ?_
          refine ur_divV rfl (by decide) (fun x66 e67 => ?_)
          have z68 := any_r x63
          have t69 : 0 ≤ x63.toInt → x66.toInt = x63.toInt % 360 := fun q => ti_rem e67 l_360 (by decide) q
          refine ur_svIk [some (.inr (.inr (some 52))), some (.inl a1), some (.inl a2), some (.inl a3), some (.inl a4), some (.inl x30), some (.inl x34), some (.inl x49), some (.inl x66)] rfl rfl ?_
          refine ur_ldI rfl rfl ?_
          refine ur_if1 rfl (fun c70 => ?_) (fun c70 => ?_)
          · have t71 := le_to c70
            refine ur_incV (fun z => [some (.inr (.inr (some 52))), some (.inl a1), some (.inl a2), some (.inl a3), some (.inl a4), some (.inl x30), some (.inl z), some (.inl x49), some (.inl x66)]) rfl rfl (fun _ => rfl) (fun x72 e73 => ?_)
            have t74 := ti_add e73 (by omega) (by omega)
            refine ur_go rfl ?_
            have z75 := any_r x72
            exact ih39 x72 _ _ (by omega) (by omega)
          · have t76 := le_no c70
            refine ur_ldI rfl rfl ?_
            refine ur_ldA rfl rfl ?_
            refine ur_get rfl hc1 rfl ?_
            refine ur_ldI rfl rfl ?_
            refine ur_aldV rfl hc4 hn6 (by omega) (fun x77 hx78 => ?_)
            refine ur_inl rfl rfl (Nat.le_of_ble_eq_true rfl) (Nat.le_of_ble_eq_true rfl) (sf_X11_apart _ _ (fun w79 hr80 => ?_))
            obtain ⟨x81, rfl⟩ := hr80
            show uRun _ (uCall Mt _) _ 100 (_, [(.inl x81)], _, _, _)
            refine ur_ldI rfl rfl ?_
            have z82 := any_r x81
            have z83 := any_r a4
            refine ur_if2 rfl (fun c84 => ?_) (fun c84 => ?_)
            · have t85 := le_to c84
              refine ur_incV (fun z => [some (.inr (.inr (some 52))), some (.inl a1), some (.inl a2), some (.inl a3), some (.inl a4), some (.inl x30), some (.inl z), some (.inl x49), some (.inl x66)]) rfl rfl (fun _ => rfl) (fun x86 e87 => ?_)
              have t88 := ti_add e87 (by omega) (by omega)
              refine ur_go rfl ?_
              have z89 := any_r x86
              exact ih39 x86 _ _ (by omega) (by omega)
            · have t90 := le_no c84
              refine ur_push rfl ?_
              exact ur_ret rfl rfl (hQ _ ⟨_, rfl⟩ )
        · have t91 := wi_noL (bnot_f c54) l_m120 l_120
          refine ur_push rfl ?_
          exact ur_ret rfl rfl (hQ _ ⟨_, rfl⟩ )
  exact L37 _ 0 (none) (none) (by omega) (Nat.lt_succ_self _)

set_option maxRecDepth 20000 in
set_option maxHeartbeats 4000000 in
theorem sf_X3_findPaths {d kc ks : Nat} {h0 : aH} {Q : Option aV → aH → Prop} (hO0 : OK h0) (a1 : Int32) (b1 : 0 ≤ a1.toInt ∧ a1.toInt ≤ 999999) (a2 : Int32) (a3 : Int32) (hQ : ∀ r, (∃ x, r = some (.inl x)) → Q r h0) : uCall Mt (d + 4) 28 [(.inr (.inr (some 52))), (.inl a1), (.inl a2), (.inl a3)] h0 kc ks Q := by
  have l_m2 : ((-2) : Int32).toInt = -2 := by decide
  have l_m1 : ((-1) : Int32).toInt = -1 := by decide
  have l_0 : ((0) : Int32).toInt = 0 := by decide
  have l_1 : ((1) : Int32).toInt = 1 := by decide
  have l_2 : ((2) : Int32).toInt = 2 := by decide
  have l_3 : ((3) : Int32).toInt = 3 := by decide
  have l_4 : ((4) : Int32).toInt = 4 := by decide
  have l_5 : ((5) : Int32).toInt = 5 := by decide
  have l_10 : ((10) : Int32).toInt = 10 := by decide
  have l_60 : ((60) : Int32).toInt = 60 := by decide
  have l_95 : ((95) : Int32).toInt = 95 := by decide
  have l_999999 : ((999999) : Int32).toInt = 999999 := by decide
  refine uc_ink [some (.inr (.inr (some 52))), some (.inl a1), some (.inl a2), some (.inl a3), none, none, none, none, none, none] mt_28 (Nat.le_of_ble_eq_true rfl) rfl ?_
  refine ur_push rfl ?_
  refine ur_svIk [some (.inr (.inr (some 52))), some (.inl a1), some (.inl a2), some (.inl a3), some (.inl 0), none, none, none, none, none] rfl rfl ?_
  refine ur_ldI rfl rfl ?_
  refine ur_push rfl ?_
  refine ur_binV rfl (fun x1 e2 => ?_)
  have z3 := any_r a1
  have t4 := ti_add e2 (by omega) (by omega)
  refine ur_push rfl ?_
  refine ur_minV rfl (by show ¬ 9 ≤ 2; decide) (fun x5 t6 e7 => ?_)
  refine ur_svIk [some (.inr (.inr (some 52))), some (.inl a1), some (.inl a2), some (.inl a3), some (.inl 0), some (.inl x5), none, none, none, none] rfl rfl ?_
  refine ur_ldI rfl rfl ?_
  refine ur_push rfl ?_
  refine ur_binV rfl (fun x8 e9 => ?_)
  have t10 := ti_sub e9 (by omega) (by omega)
  refine ur_push rfl ?_
  refine ur_maxV rfl (by show ¬ 9 ≤ 2; decide) (fun x11 t12 e13 => ?_)
  refine ur_svIk [some (.inr (.inr (some 52))), some (.inl a1), some (.inl a2), some (.inl a3), some (.inl 0), some (.inl x5), some (.inl x11), none, none, none] rfl rfl ?_
  have L19 : ∀ (m20 : Nat) (x14 : Int32) (x15 : Int32) (u16 : Option aV) (u17 : Option aV) (u18 : Option aV) , ((0 ≤ x15.toInt ∧ x15.toInt ≤ 2147483647)) → ((2147483648 - x15.toInt).toNat) < m20 → uRun oX3_findPaths (uCall Mt (d + 3)) Q 24 ([some (.inr (.inr (some 52))), some (.inl a1), some (.inl a2), some (.inl a3), some (.inl x14), some (.inl x5), some (.inl x15), u16, u17, u18], [], h0, kc, ks) := by
    intro m20
    induction m20 with
    | zero => intro x14 x15 u16 u17 u18 iv22 mm23; omega
    | succ m20 ih21 =>
      intro x14 x15 u16 u17 u18 iv22 mm23
      refine ur_ldI rfl rfl ?_
      refine ur_ldI rfl rfl ?_
      have z24 := any_r x15
      have z25 := any_r x5
      refine ur_if2 rfl (fun c26 => ?_) (fun c26 => ?_)
      · have t27 := lt_to c26
        refine ur_ldI rfl rfl ?_
        refine ur_if1 rfl (fun c28 => ?_) (fun c28 => ?_)
        · have t29 := ne_to c28
          refine ur_push rfl ?_
          exact ur_ret rfl rfl (hQ _ ⟨_, rfl⟩ )
        · have t30 := ne_no c28
          refine ur_ldI rfl rfl ?_
          refine ur_go rfl ?_
          exact ur_ret rfl rfl (hQ _ ⟨_, rfl⟩ )
      · have t31 := lt_no c26
        refine ur_push rfl ?_
        refine ur_svIk [some (.inr (.inr (some 52))), some (.inl a1), some (.inl a2), some (.inl a3), some (.inl x14), some (.inl x5), some (.inl x15), some (.inl 5), u17, u18] rfl rfl ?_
        have L36 : ∀ (m37 : Nat) (x32 : Int32) (x33 : Int32) (u34 : Option aV) (u35 : Option aV) , ((5 ≤ x33.toInt ∧ x33.toInt ≤ 2147483647)) → ((2147483648 - x33.toInt).toNat) < m37 → uRun oX3_findPaths (uCall Mt (d + 3)) Q 34 ([some (.inr (.inr (some 52))), some (.inl a1), some (.inl a2), some (.inl a3), some (.inl x32), some (.inl x5), some (.inl x15), some (.inl x33), u34, u35], [], h0, kc, ks) := by
          intro m37
          induction m37 with
          | zero => intro x32 x33 u34 u35 iv39 mm40; omega
          | succ m37 ih38 =>
            intro x32 x33 u34 u35 iv39 mm40
            refine ur_ldI rfl rfl ?_
            refine ur_push rfl ?_
            refine ur_if2 rfl (fun c41 => ?_) (fun c41 => ?_)
            · have t42 := lt_to c41
              refine ur_incV (fun z => [some (.inr (.inr (some 52))), some (.inl a1), some (.inl a2), some (.inl a3), some (.inl x32), some (.inl x5), some (.inl z), some (.inl x33), u34, u35]) rfl rfl (fun _ => rfl) (fun x43 e44 => ?_)
              have t45 := ti_add e44 (by omega) (by omega)
              refine ur_go rfl ?_
              have z46 := any_r x43
              exact ih21 x32 x43 _ _ _ (by omega) (by omega)
            · have t47 := lt_no c41
              refine ur_push rfl ?_
              refine ur_svIk [some (.inr (.inr (some 52))), some (.inl a1), some (.inl a2), some (.inl a3), some (.inl x32), some (.inl x5), some (.inl x15), some (.inl x33), some (.inl 1), u35] rfl rfl ?_
              have L51 : ∀ (m52 : Nat) (x48 : Int32) (x49 : Int32) (u50 : Option aV) , ((-2147483648 ≤ x49.toInt ∧ x49.toInt ≤ 1)) → ((x49.toInt + 2147483649).toNat) < m52 → uRun oX3_findPaths (uCall Mt (d + 3)) Q 44 ([some (.inr (.inr (some 52))), some (.inl a1), some (.inl a2), some (.inl a3), some (.inl x48), some (.inl x5), some (.inl x15), some (.inl x33), some (.inl x49), u50], [], h0, kc, ks) := by
                intro m52
                induction m52 with
                | zero => intro x48 x49 u50 iv54 mm55; omega
                | succ m52 ih53 =>
                  intro x48 x49 u50 iv54 mm55
                  refine ur_ldI rfl rfl ?_
                  refine ur_push rfl ?_
                  refine ur_if2 rfl (fun c56 => ?_) (fun c56 => ?_)
                  · have t57 := lt_to c56
                    refine ur_incV (fun z => [some (.inr (.inr (some 52))), some (.inl a1), some (.inl a2), some (.inl a3), some (.inl x48), some (.inl x5), some (.inl x15), some (.inl z), some (.inl x49), u50]) rfl rfl (fun _ => rfl) (fun x58 e59 => ?_)
                    have z60 := any_r x33
                    have t61 := ti_add e59 (by omega) (by omega)
                    refine ur_go rfl ?_
                    have z62 := any_r x58
                    exact ih38 x48 x58 _ _ (by omega) (by omega)
                  · have t63 := lt_no c56
                    refine ur_ldA rfl rfl ?_
                    refine ur_ldI rfl rfl ?_
                    refine ur_ldI rfl rfl ?_
                    refine ur_ldI rfl rfl ?_
                    refine ur_ldI rfl rfl ?_
                    obtain ⟨f65, hc64, k66⟩ := ok_52 hO0
                    refine ur_inl rfl (rcv_of hc64) (Nat.le_of_ble_eq_true rfl) (Nat.le_of_ble_eq_true rfl) (sf_X3_nodeOf hO0 _ _ _ _ (fun w67 hr68 => ?_))
                    obtain ⟨x69, rfl⟩ := hr68
                    show uRun _ (uCall Mt _) _ 61 (_, [(.inl x69)], _, _, _)
                    refine ur_svIk [some (.inr (.inr (some 52))), some (.inl a1), some (.inl a2), some (.inl a3), some (.inl x48), some (.inl x5), some (.inl x15), some (.inl x33), some (.inl x49), some (.inl x69)] rfl rfl ?_
                    refine ur_ldI rfl rfl ?_
                    refine ur_push rfl ?_
                    refine ur_if2 rfl (fun c70 => ?_) (fun c70 => ?_)
                    · have t71 := ne_to c70
                      refine ur_ldI rfl rfl ?_
                      refine ur_push rfl ?_
                      refine ur_if2 rfl (fun c72 => ?_) (fun c72 => ?_)
                      · have t73 := ne_to c72
                        refine ur_ldI rfl rfl ?_
                        refine ur_push rfl ?_
                        refine ur_if2 rfl (fun c74 => ?_) (fun c74 => ?_)
                        · have t75 := ne_to c74
                          refine ur_ldI rfl rfl ?_
                          refine ur_push rfl ?_
                          refine ur_if2 rfl (fun c76 => ?_) (fun c76 => ?_)
                          · have t77 := ne_to c76
                            refine ur_ldI rfl rfl ?_
                            refine ur_push rfl ?_
                            refine ur_if2 rfl (fun c78 => ?_) (fun c78 => ?_)
                            · have t79 := ne_to c78
                              refine ur_incV (fun z => [some (.inr (.inr (some 52))), some (.inl a1), some (.inl a2), some (.inl a3), some (.inl z), some (.inl x5), some (.inl x15), some (.inl x33), some (.inl x49), some (.inl x69)]) rfl rfl (fun _ => rfl) (fun x80 e81 => ?_)
                              have z82 := any_r x48
                              refine ur_incV (fun z => [some (.inr (.inr (some 52))), some (.inl a1), some (.inl a2), some (.inl a3), some (.inl x80), some (.inl x5), some (.inl x15), some (.inl x33), some (.inl z), some (.inl x69)]) rfl rfl (fun _ => rfl) (fun x83 e84 => ?_)
                              have z85 := any_r x49
                              have t86 := ti_add e84 (by omega) (by omega)
                              refine ur_go rfl ?_
                              have z87 := any_r x83
                              exact ih53 x80 x83 _ (by omega) (by omega)
                            · have t88 := ne_no c78
                              refine ur_ldI rfl rfl ?_
                              exact ur_ret rfl rfl (hQ _ ⟨_, rfl⟩ )
                          · have t89 := ne_no c76
                            refine ur_ldI rfl rfl ?_
                            exact ur_ret rfl rfl (hQ _ ⟨_, rfl⟩ )
                        · have t90 := ne_no c74
                          refine ur_ldI rfl rfl ?_
                          exact ur_ret rfl rfl (hQ _ ⟨_, rfl⟩ )
                      · have t91 := ne_no c72
                        refine ur_ldI rfl rfl ?_
                        exact ur_ret rfl rfl (hQ _ ⟨_, rfl⟩ )
                    · have t92 := ne_no c70
                      refine ur_go rfl ?_
                      refine ur_incV (fun z => [some (.inr (.inr (some 52))), some (.inl a1), some (.inl a2), some (.inl a3), some (.inl x48), some (.inl x5), some (.inl x15), some (.inl x33), some (.inl z), some (.inl x69)]) rfl rfl (fun _ => rfl) (fun x93 e94 => ?_)
                      have z95 := any_r x49
                      have t96 := ti_add e94 (by omega) (by omega)
                      refine ur_go rfl ?_
                      have z97 := any_r x93
                      exact ih53 x48 x93 _ (by omega) (by omega)
              exact L51 _ x32 1 (u35) (by omega) (Nat.lt_succ_self _)
        exact L36 _ x14 5 (u17) (u18) (by omega) (Nat.lt_succ_self _)
  have z98 := any_r x11
  exact L19 _ 0 x11 (none) (none) (none) (by omega) (Nat.lt_succ_self _)

set_option maxRecDepth 20000 in
set_option maxHeartbeats 4000000 in
theorem sf_X6_wideOf {d kc ks : Nat} {h0 : aH} {Q : Option aV → aH → Prop} (hO0 : OK h0) (a1 : Int32) (b1 : -60 ≤ a1.toInt ∧ a1.toInt ≤ 60) (hQ : ∀ r, (∃ x : Int32, r = some (.inl x) ∧ 0 ≤ x.toInt ∧ x.toInt ≤ 14400) → Q r h0) : uCall Mt (d + 1) 62 [(.inr (.inr (some 1))), (.inl a1)] h0 kc ks Q := by
  have l_0 : ((0) : Int32).toInt = 0 := by decide
  have l_1 : ((1) : Int32).toInt = 1 := by decide
  refine uc_ink [some (.inr (.inr (some 1))), some (.inl a1), none, none] mt_62 (Nat.le_of_ble_eq_true rfl) rfl ?_
  refine ur_push rfl ?_
  refine ur_svIk [some (.inr (.inr (some 1))), some (.inl a1), some (.inl 0), none] rfl rfl ?_
  refine ur_push rfl ?_
  refine ur_svIk [some (.inr (.inr (some 1))), some (.inl a1), some (.inl 0), some (.inl 0)] rfl rfl ?_
  have L3 : ∀ (m4 : Nat) (x1 : Int32) (x2 : Int32) , ((0 ≤ x1.toInt ∧ x1.toInt ≤ 240) ∧ (0 ≤ x2.toInt ∧ x2.toInt ≤ 4) ∧ x1.toInt ≤ 60 * x2.toInt) → ((5 - x2.toInt).toNat) < m4 → uRun oX6_wideOf (uCall Mt (d + 0)) Q 4 ([some (.inr (.inr (some 1))), some (.inl a1), some (.inl x1), some (.inl x2)], [], h0, kc, ks) := by
    intro m4
    induction m4 with
    | zero => intro x1 x2 iv6 mm7; omega
    | succ m4 ih5 =>
      intro x1 x2 iv6 mm7
      refine ur_ldI rfl rfl ?_
      refine ur_ldA rfl rfl ?_
      obtain ⟨f9, f10, hc8, k11⟩ := ok_1 hO0
      refine ur_get rfl hc8 rfl ?_
      have z12 := any_r x2
      have z13 := any_r f9
      refine ur_if2 rfl (fun c14 => ?_) (fun c14 => ?_)
      · have t15 := le_to c14
        refine ur_ldI rfl rfl ?_
        refine ur_absV rfl (by show ¬ 9 ≤ 1; decide) (fun x16 t17 e18 => ?_)
        have t19 := t17 (by omega)
        clear t17
        refine ur_ldI rfl rfl ?_
        refine ur_binV rfl (fun x20 e21 => ?_)
        have z22 := any_r x16
        have z23 := any_r x1
        have t24 := ti_mulB (b := 60) (d := 240) e21 (by omega) (by omega) (by decide)
        exact ur_ret rfl rfl (hQ _ ⟨_, rfl, by omega⟩ )
      · have t25 := le_no c14
        refine ur_ldI rfl rfl ?_
        refine ur_ldA rfl rfl ?_
        refine ur_get rfl hc8 rfl ?_
        refine ur_ldI rfl rfl ?_
        obtain ⟨xs27, hc26, hn28, he29⟩ := hO0.int (hO0.fix 3 (by decide) rfl)
        refine ur_aldV rfl hc26 hn28 (by omega) (fun x30 hx31 => ?_)
        have t32 : 0 ≤ x30.toInt ∧ x30.toInt ≤ 60 := he29 _ _ hx31
        refine ur_binV rfl (fun x33 e34 => ?_)
        have z35 := any_r x1
        have z36 := any_r x30
        have t37 := ti_add e34 (by omega) (by omega)
        refine ur_svIk [some (.inr (.inr (some 1))), some (.inl a1), some (.inl x33), some (.inl x2)] rfl rfl ?_
        refine ur_incV (fun z => [some (.inr (.inr (some 1))), some (.inl a1), some (.inl x33), some (.inl z)]) rfl rfl (fun _ => rfl) (fun x38 e39 => ?_)
        have t40 := ti_add e39 (by omega) (by omega)
        refine ur_go rfl ?_
        have z41 := any_r x33
        have z42 := any_r x38
        exact ih5 x33 x38 (by omega) (by omega)
  exact L3 _ 0 0 (by omega) (Nat.lt_succ_self _)

set_option maxRecDepth 20000 in
set_option maxHeartbeats 4000000 in
theorem sf_X11_drawn {d kc ks : Nat} {h0 : aH} {Q : Option aV → aH → Prop} (a0 : Int32) (hQ : ∀ r, (∃ x, r = some (.inl x)) → Q r h0) : uCall Mt (d + 1) 169 [(.inl a0)] h0 kc ks Q := by
  have l_12345 : ((12345) : Int32).toInt = 12345 := by decide
  have l_1103515245 : ((1103515245) : Int32).toInt = 1103515245 := by decide
  refine uc_ink [some (.inl a0)] mt_169 (Nat.le_of_ble_eq_true rfl) rfl ?_
  refine ur_ldI rfl rfl ?_
  refine ur_push rfl ?_
  refine ur_binV rfl (fun x1 e2 => ?_)
  have z3 := any_r a0
  refine ur_push rfl ?_
  refine ur_binV rfl (fun x4 e5 => ?_)
  have z6 := any_r x1
  exact ur_ret rfl rfl (hQ _ ⟨_, rfl⟩ )

set_option maxRecDepth 20000 in
set_option maxHeartbeats 4000000 in
theorem sf_X11_drawnNode {d kc ks : Nat} {h0 : aH} {Q : Option aV → aH → Prop} (a0 : Int32) (hQ : ∀ r, (∃ x, r = some (.inl x)) → Q r h0) : uCall Mt (d + 1) 170 [(.inl a0)] h0 kc ks Q := by
  have l_8 : ((8) : Int32).toInt = 8 := by decide
  have l_360 : ((360) : Int32).toInt = 360 := by decide
  refine uc_ink [some (.inl a0)] mt_170 (Nat.le_of_ble_eq_true rfl) rfl ?_
  refine ur_ldI rfl rfl ?_
  refine ur_push rfl ?_
  refine ur_binV rfl (fun x1 e2 => ?_)
  refine ur_push rfl ?_
  refine ur_divV rfl (by decide) (fun x3 e4 => ?_)
  have z5 := any_r x1
  have t6 : 0 ≤ x1.toInt → x3.toInt = x1.toInt % 360 := fun q => ti_rem e4 l_360 (by decide) q
  exact ur_ret rfl rfl (hQ _ ⟨_, rfl⟩ )

set_option maxRecDepth 20000 in
set_option maxHeartbeats 4000000 in
theorem sf_X11_drawnReach {d kc ks : Nat} {h0 : aH} {Q : Option aV → aH → Prop} (a0 : Int32) (hQ : ∀ r, (∃ x, r = some (.inl x)) → Q r h0) : uCall Mt (d + 1) 171 [(.inl a0)] h0 kc ks Q := by
  have l_5 : ((5) : Int32).toInt = 5 := by decide
  have l_8 : ((8) : Int32).toInt = 8 := by decide
  have l_95 : ((95) : Int32).toInt = 95 := by decide
  refine uc_ink [some (.inl a0)] mt_171 (Nat.le_of_ble_eq_true rfl) rfl ?_
  refine ur_push rfl ?_
  refine ur_ldI rfl rfl ?_
  refine ur_push rfl ?_
  refine ur_binV rfl (fun x1 e2 => ?_)
  refine ur_push rfl ?_
  refine ur_divV rfl (by decide) (fun x3 e4 => ?_)
  have z5 := any_r x1
  have t6 : 0 ≤ x1.toInt → x3.toInt = x1.toInt % 95 := fun q => ti_rem e4 l_95 (by decide) q
  refine ur_binV rfl (fun x7 e8 => ?_)
  have z9 := any_r x3
  exact ur_ret rfl rfl (hQ _ ⟨_, rfl⟩ )

set_option maxRecDepth 20000 in
set_option maxHeartbeats 4000000 in
theorem sf_X11_isNear {d kc ks : Nat} {h0 : aH} {Q : Option aV → aH → Prop} (a0 : Int32) (a1 : Int32) (a2 : Int32) (hQ : ∀ r, (∃ q, r = some (.inl (bi q))) → Q r h0) : uCall Mt (d + 2) 172 [(.inl a0), (.inl a1), (.inl a2)] h0 kc ks Q := by
  have l_0 : ((0) : Int32).toInt = 0 := by decide
  have l_1 : ((1) : Int32).toInt = 1 := by decide
  refine uc_ink [some (.inl a0), some (.inl a1), some (.inl a2)] mt_172 (Nat.le_of_ble_eq_true rfl) rfl ?_
  refine ur_ldI rfl rfl ?_
  refine ur_push rfl ?_
  refine ur_inl rfl rfl (Nat.le_of_ble_eq_true rfl) (Nat.le_of_ble_eq_true rfl) (sf_X11_apart _ _ (fun w1 hr2 => ?_))
  obtain ⟨x3, rfl⟩ := hr2
  show uRun _ (uCall Mt _) _ 5 (_, [(.inl x3)], _, _, _)
  refine ur_ldI rfl rfl ?_
  have z4 := any_r x3
  have z5 := any_r a2
  refine ur_if2 rfl (fun c6 => ?_) (fun c6 => ?_)
  · have t7 := lt_to c6
    refine ur_push rfl ?_
    exact ur_ret rfl rfl (hQ _ ⟨false, rfl⟩ )
  · have t8 := lt_no c6
    refine ur_ldI rfl rfl ?_
    refine ur_absV rfl (by show ¬ 9 ≤ 1; decide) (fun x9 t10 e11 => ?_)
    refine ur_ldI rfl rfl ?_
    have z12 := any_r x9
    refine ur_if2 rfl (fun c13 => ?_) (fun c13 => ?_)
    · have t14 := lt_to c13
      refine ur_push rfl ?_
      exact ur_ret rfl rfl (hQ _ ⟨false, rfl⟩ )
    · have t15 := lt_no c13
      refine ur_push rfl ?_
      refine ur_go rfl ?_
      exact ur_ret rfl rfl (hQ _ ⟨true, rfl⟩ )

set_option maxRecDepth 20000 in
set_option maxHeartbeats 4000000 in
theorem sf_X11_thousandthsNear {d kc ks : Nat} {h0 : aH} {Q : Option aV → aH → Prop} (a0 : Int32) (a1 : Int32) (a2 : Int32) (hQ : ∀ r, (∃ x, r = some (.inl x)) → Q r h0) : uCall Mt (d + 3) 168 [(.inl a0), (.inl a1), (.inl a2)] h0 kc ks Q := by
  have l_0 : ((0) : Int32).toInt = 0 := by decide
  have l_1 : ((1) : Int32).toInt = 1 := by decide
  have l_1000 : ((1000) : Int32).toInt = 1000 := by decide
  refine uc_ink [some (.inl a0), some (.inl a1), some (.inl a2), none, none, none, none, none, none] mt_168 (Nat.le_of_ble_eq_true rfl) rfl ?_
  refine ur_ldI rfl rfl ?_
  refine ur_if1 rfl (fun c1 => ?_) (fun c1 => ?_)
  · have t2 := lt_to c1
    refine ur_ldI rfl rfl ?_
    refine ur_svIk [some (.inl a0), some (.inl a1), some (.inl a2), some (.inl a1), none, none, none, none, none] rfl rfl ?_
    refine ur_push rfl ?_
    refine ur_svIk [some (.inl a0), some (.inl a1), some (.inl a2), some (.inl a1), some (.inl 0), none, none, none, none] rfl rfl ?_
    refine ur_push rfl ?_
    refine ur_svIk [some (.inl a0), some (.inl a1), some (.inl a2), some (.inl a1), some (.inl 0), some (.inl 0), none, none, none] rfl rfl ?_
    have L9 : ∀ (m10 : Nat) (x3 : Int32) (x4 : Int32) (x5 : Int32) (u6 : Option aV) (u7 : Option aV) (u8 : Option aV) , ((0 ≤ x5.toInt ∧ x5.toInt ≤ 2147483647)) → ((2147483648 - x5.toInt).toNat) < m10 → uRun oX11_thousandthsNear (uCall Mt (d + 2)) Q 14 ([some (.inl a0), some (.inl a1), some (.inl a2), some (.inl x3), some (.inl x4), some (.inl x5), u6, u7, u8], [], h0, kc, ks) := by
      intro m10
      induction m10 with
      | zero => intro x3 x4 x5 u6 u7 u8 iv12 mm13; omega
      | succ m10 ih11 =>
        intro x3 x4 x5 u6 u7 u8 iv12 mm13
        refine ur_ldI rfl rfl ?_
        refine ur_ldI rfl rfl ?_
        have z14 := any_r x5
        have z15 := any_r a2
        refine ur_if2 rfl (fun c16 => ?_) (fun c16 => ?_)
        · have t17 := le_to c16
          refine ur_push rfl ?_
          refine ur_ldI rfl rfl ?_
          refine ur_binV rfl (fun x18 e19 => ?_)
          have z20 := any_r x4
          refine ur_ldI rfl rfl ?_
          refine ur_divV rfl (nz_of (by omega)) (fun x21 e22 => ?_)
          have z23 := any_r x18
          exact ur_ret rfl rfl (hQ _ ⟨_, rfl⟩ )
        · have t24 := le_no c16
          refine ur_ldI rfl rfl ?_
          refine ur_inl rfl rfl (Nat.le_of_ble_eq_true rfl) (Nat.le_of_ble_eq_true rfl) (sf_X11_drawn _ (fun w25 hr26 => ?_))
          obtain ⟨x27, rfl⟩ := hr26
          show uRun _ (uCall Mt _) _ 24 (_, [(.inl x27)], _, _, _)
          refine ur_svIk [some (.inl a0), some (.inl a1), some (.inl a2), some (.inl x27), some (.inl x4), some (.inl x5), u6, u7, u8] rfl rfl ?_
          refine ur_ldI rfl rfl ?_
          refine ur_inl rfl rfl (Nat.le_of_ble_eq_true rfl) (Nat.le_of_ble_eq_true rfl) (sf_X11_drawnNode _ (fun w28 hr29 => ?_))
          obtain ⟨x30, rfl⟩ := hr29
          show uRun _ (uCall Mt _) _ 29 (_, [(.inl x30)], _, _, _)
          refine ur_svIk [some (.inl a0), some (.inl a1), some (.inl a2), some (.inl x27), some (.inl x4), some (.inl x5), some (.inl x30), u7, u8] rfl rfl ?_
          refine ur_ldI rfl rfl ?_
          refine ur_inl rfl rfl (Nat.le_of_ble_eq_true rfl) (Nat.le_of_ble_eq_true rfl) (sf_X11_drawn _ (fun w31 hr32 => ?_))
          obtain ⟨x33, rfl⟩ := hr32
          show uRun _ (uCall Mt _) _ 35 (_, [(.inl x33)], _, _, _)
          refine ur_svIk [some (.inl a0), some (.inl a1), some (.inl a2), some (.inl x33), some (.inl x4), some (.inl x5), some (.inl x30), u7, u8] rfl rfl ?_
          refine ur_ldI rfl rfl ?_
          refine ur_inl rfl rfl (Nat.le_of_ble_eq_true rfl) (Nat.le_of_ble_eq_true rfl) (sf_X11_drawnReach _ (fun w34 hr35 => ?_))
          obtain ⟨x36, rfl⟩ := hr35
          show uRun _ (uCall Mt _) _ 40 (_, [(.inl x36)], _, _, _)
          refine ur_svIk [some (.inl a0), some (.inl a1), some (.inl a2), some (.inl x33), some (.inl x4), some (.inl x5), some (.inl x30), some (.inl x36), u8] rfl rfl ?_
          refine ur_ldI rfl rfl ?_
          refine ur_inl rfl rfl (Nat.le_of_ble_eq_true rfl) (Nat.le_of_ble_eq_true rfl) (sf_X11_drawn _ (fun w37 hr38 => ?_))
          obtain ⟨x39, rfl⟩ := hr38
          show uRun _ (uCall Mt _) _ 46 (_, [(.inl x39)], _, _, _)
          refine ur_svIk [some (.inl a0), some (.inl a1), some (.inl a2), some (.inl x39), some (.inl x4), some (.inl x5), some (.inl x30), some (.inl x36), u8] rfl rfl ?_
          refine ur_ldI rfl rfl ?_
          refine ur_inl rfl rfl (Nat.le_of_ble_eq_true rfl) (Nat.le_of_ble_eq_true rfl) (sf_X11_drawnNode _ (fun w40 hr41 => ?_))
          obtain ⟨x42, rfl⟩ := hr41
          show uRun _ (uCall Mt _) _ 51 (_, [(.inl x42)], _, _, _)
          refine ur_svIk [some (.inl a0), some (.inl a1), some (.inl a2), some (.inl x39), some (.inl x4), some (.inl x5), some (.inl x30), some (.inl x36), some (.inl x42)] rfl rfl ?_
          refine ur_ldI rfl rfl ?_
          refine ur_inl rfl rfl (Nat.le_of_ble_eq_true rfl) (Nat.le_of_ble_eq_true rfl) (sf_X11_drawn _ (fun w43 hr44 => ?_))
          obtain ⟨x45, rfl⟩ := hr44
          show uRun _ (uCall Mt _) _ 57 (_, [(.inl x45)], _, _, _)
          refine ur_svIk [some (.inl a0), some (.inl a1), some (.inl a2), some (.inl x45), some (.inl x4), some (.inl x5), some (.inl x30), some (.inl x36), some (.inl x42)] rfl rfl ?_
          refine ur_ldI rfl rfl ?_
          refine ur_ldI rfl rfl ?_
          refine ur_binV rfl (fun x46 e47 => ?_)
          have z48 := any_r x30
          have z49 := any_r x42
          refine ur_ldI rfl rfl ?_
          refine ur_ldI rfl rfl ?_
          refine ur_inl rfl rfl (Nat.le_of_ble_eq_true rfl) (Nat.le_of_ble_eq_true rfl) (sf_X11_drawnReach _ (fun w50 hr51 => ?_))
          obtain ⟨x52, rfl⟩ := hr51
          show uRun _ (uCall Mt _) _ 69 (_, [(.inl x52), (.inl x36), (.inl x46)], _, _, _)
          refine ur_binV rfl (fun x53 e54 => ?_)
          have z55 := any_r x36
          have z56 := any_r x52
          refine ur_ldI rfl rfl ?_
          refine ur_inl rfl rfl (Nat.le_of_ble_eq_true rfl) (Nat.le_of_ble_eq_true rfl) (sf_X11_isNear _ _ _ (fun w57 hr58 => ?_))
          obtain ⟨b59, rfl⟩ := hr58
          show uRun _ (uCall Mt _) _ 74 (_, [(.inl (bi b59))], _, _, _)
          refine ur_eqB rfl (fun c60 => ?_) (fun c60 => ?_)
          · refine ur_incV (fun z => [some (.inl a0), some (.inl a1), some (.inl a2), some (.inl x45), some (.inl x4), some (.inl z), some (.inl x30), some (.inl x36), some (.inl x42)]) rfl rfl (fun _ => rfl) (fun x61 e62 => ?_)
            have t63 := ti_add e62 (by omega) (by omega)
            refine ur_go rfl ?_
            have z64 := any_r x61
            exact ih11 x45 x4 x61 _ _ _ (by omega) (by omega)
          · refine ur_incV (fun z => [some (.inl a0), some (.inl a1), some (.inl a2), some (.inl x45), some (.inl z), some (.inl x5), some (.inl x30), some (.inl x36), some (.inl x42)]) rfl rfl (fun _ => rfl) (fun x65 e66 => ?_)
            have z67 := any_r x4
            refine ur_incV (fun z => [some (.inl a0), some (.inl a1), some (.inl a2), some (.inl x45), some (.inl x65), some (.inl z), some (.inl x30), some (.inl x36), some (.inl x42)]) rfl rfl (fun _ => rfl) (fun x68 e69 => ?_)
            have t70 := ti_add e69 (by omega) (by omega)
            refine ur_go rfl ?_
            have z71 := any_r x68
            exact ih11 x45 x65 x68 _ _ _ (by omega) (by omega)
    exact L9 _ a1 0 0 (none) (none) (none) (by omega) (Nat.lt_succ_self _)
  · have t72 := lt_no c1
    refine ur_push rfl ?_
    exact ur_ret rfl rfl (hQ _ ⟨_, rfl⟩ )

set_option maxRecDepth 20000 in
set_option maxHeartbeats 4000000 in
theorem sf_X11_paths {d kc ks : Nat} {h0 : aH} {Q : Option aV → aH → Prop} (hO0 : OK h0) (a1 : Int32) (a2 : Int32) (a3 : Int32) (hQ : ∀ r, (∃ x, r = some (.inl x)) → Q r h0) : uCall Mt (d + 5) 148 [(.inr (.inr (some 0))), (.inl a1), (.inl a2), (.inl a3)] h0 kc ks Q := by
  have l_m5 : ((-5) : Int32).toInt = -5 := by decide
  have l_m1 : ((-1) : Int32).toInt = -1 := by decide
  have l_0 : ((0) : Int32).toInt = 0 := by decide
  have l_2 : ((2) : Int32).toInt = 2 := by decide
  have l_4 : ((4) : Int32).toInt = 4 := by decide
  have l_90 : ((90) : Int32).toInt = 90 := by decide
  have l_999999 : ((999999) : Int32).toInt = 999999 := by decide
  refine uc_ink [some (.inr (.inr (some 0))), some (.inl a1), some (.inl a2), some (.inl a3)] mt_148 (Nat.le_of_ble_eq_true rfl) rfl ?_
  refine ur_ldI rfl rfl ?_
  refine ur_callv rfl rfl (Nat.le_of_ble_eq_true rfl) (Nat.le_of_ble_eq_true rfl) rfl (sp_isDay _ _) ?_
  refine ur_eqB rfl (fun c3 => ?_) (fun c3 => ?_)
  · have t4 := wi_noL c3 l_0 l_999999
    refine ur_push rfl ?_
    exact ur_ret rfl rfl (hQ _ ⟨_, rfl⟩ )
  · have t5 := wi_toL c3 l_0 l_999999
    refine ur_ldI rfl rfl ?_
    refine ur_push rfl ?_
    refine ur_push rfl ?_
    refine ur_callv rfl rfl (Nat.le_of_ble_eq_true rfl) (Nat.le_of_ble_eq_true rfl) rfl (sp_within _ _ _ _ _) ?_
    refine ur_eqB rfl (fun c8 => ?_) (fun c8 => ?_)
    · have t9 := wi_noL c8 l_0 l_90
      refine ur_push rfl ?_
      exact ur_ret rfl rfl (hQ _ ⟨_, rfl⟩ )
    · have t10 := wi_toL c8 l_0 l_90
      refine ur_ldI rfl rfl ?_
      refine ur_push rfl ?_
      refine ur_push rfl ?_
      refine ur_callv rfl rfl (Nat.le_of_ble_eq_true rfl) (Nat.le_of_ble_eq_true rfl) rfl (sp_within _ _ _ _ _) ?_
      refine ur_neB rfl (fun c13 => ?_) (fun c13 => ?_)
      · have t14 := wi_toL c13 l_0 l_4
        refine ur_ldA rfl rfl ?_
        obtain ⟨hc15, k16⟩ := ok_0 hO0
        refine ur_get rfl hc15 rfl ?_
        obtain ⟨f18, hc17, k19⟩ := ok_52 hO0
        refine ur_get rfl hc17 rfl ?_
        refine ur_push rfl ?_
        refine ur_if2 rfl (fun c20 => ?_) (fun c20 => ?_)
        · have t21 := le_to c20
          refine ur_ldA rfl rfl ?_
          refine ur_get rfl hc15 rfl ?_
          refine ur_ldI rfl rfl ?_
          refine ur_ldI rfl rfl ?_
          refine ur_ldI rfl rfl ?_
          refine ur_inl rfl (rcv_of hc17) (Nat.le_of_ble_eq_true rfl) (Nat.le_of_ble_eq_true rfl) (sf_X3_findPaths hO0 _ (by show 0 ≤ a1.toInt ∧ a1.toInt ≤ 999999; omega) _ _ (fun w22 hr23 => ?_))
          obtain ⟨x24, rfl⟩ := hr23
          show uRun _ (uCall Mt _) _ 52 (_, [(.inl x24)], _, _, _)
          exact ur_ret rfl rfl (hQ _ ⟨_, rfl⟩ )
        · have t25 := le_no c20
          refine ur_push rfl ?_
          exact ur_ret rfl rfl (hQ _ ⟨_, rfl⟩ )
      · have t26 := wi_noL c13 l_0 l_4
        refine ur_push rfl ?_
        exact ur_ret rfl rfl (hQ _ ⟨_, rfl⟩ )

set_option maxRecDepth 20000 in
set_option maxHeartbeats 4000000 in
theorem sf_X11_chance {d kc ks : Nat} {h0 : aH} {Q : Option aV → aH → Prop} (hO0 : OK h0) (a1 : Int32) (a2 : Int32) (a3 : Int32) (hQ : ∀ r, (∃ x, r = some (.inl x)) → Q r h0) : uCall Mt (d + 4) 151 [(.inr (.inr (some 0))), (.inl a1), (.inl a2), (.inl a3)] h0 kc ks Q := by
  have l_m1 : ((-1) : Int32).toInt = -1 := by decide
  have l_0 : ((0) : Int32).toInt = 0 := by decide
  have l_1 : ((1) : Int32).toInt = 1 := by decide
  have l_180 : ((180) : Int32).toInt = 180 := by decide
  have l_200 : ((200) : Int32).toInt = 200 := by decide
  refine uc_ink [some (.inr (.inr (some 0))), some (.inl a1), some (.inl a2), some (.inl a3)] mt_151 (Nat.le_of_ble_eq_true rfl) rfl ?_
  refine ur_ldI rfl rfl ?_
  refine ur_push rfl ?_
  refine ur_push rfl ?_
  refine ur_callv rfl rfl (Nat.le_of_ble_eq_true rfl) (Nat.le_of_ble_eq_true rfl) rfl (sp_within _ _ _ _ _) ?_
  refine ur_eqB rfl (fun c3 => ?_) (fun c3 => ?_)
  · have t4 := wi_noL c3 l_0 l_180
    refine ur_push rfl ?_
    exact ur_ret rfl rfl (hQ _ ⟨_, rfl⟩ )
  · have t5 := wi_toL c3 l_0 l_180
    refine ur_ldI rfl rfl ?_
    refine ur_push rfl ?_
    refine ur_push rfl ?_
    refine ur_callv rfl rfl (Nat.le_of_ble_eq_true rfl) (Nat.le_of_ble_eq_true rfl) rfl (sp_within _ _ _ _ _) ?_
    refine ur_neB rfl (fun c8 => ?_) (fun c8 => ?_)
    · have t9 := wi_toL c8 l_1 l_200
      refine ur_ldI rfl rfl ?_
      refine ur_ldI rfl rfl ?_
      refine ur_ldI rfl rfl ?_
      refine ur_inl rfl rfl (Nat.le_of_ble_eq_true rfl) (Nat.le_of_ble_eq_true rfl) (sf_X11_thousandthsNear _ _ _ (fun w10 hr11 => ?_))
      obtain ⟨x12, rfl⟩ := hr11
      show uRun _ (uCall Mt _) _ 30 (_, [(.inl x12)], _, _, _)
      exact ur_ret rfl rfl (hQ _ ⟨_, rfl⟩ )
    · have t13 := wi_noL c8 l_1 l_200
      refine ur_push rfl ?_
      exact ur_ret rfl rfl (hQ _ ⟨_, rfl⟩ )

end CT1
