/-! CONTRACTS of the reference, the second part, printed by program -/
section CT5
set_option maxRecDepth 20000 in
set_option maxHeartbeats 4000000 in
theorem sg_isComet {d kc ks : Nat} {h0 : aH} {Q : Option aV → aH → Prop} (hO0 : OK h0) (a1 : Int32) (hQ : ∀ r, (∃ q, r = some (.inl (bi q)) ∧ (q = true → 0 ≤ a1.toInt ∧ a1.toInt ≤ 11 ∧ a1.toInt < fI h0 4)) → Q r h0) : uCall Mt (d + 2) 187 [(.inr (.inr (some 69))), (.inl a1)] h0 kc ks Q := by
  have l_0 : ((0) : Int32).toInt = 0 := by decide
  have l_1 : ((1) : Int32).toInt = 1 := by decide
  refine uc_ink [some (.inr (.inr (some 69))), some (.inl a1)] mt_187 (Nat.le_of_ble_eq_true rfl) rfl ?_
  obtain ⟨fs1, hc2⟩ := hO0.mod
  obtain ⟨f3, p4, t5⟩ := mf_4 hO0 hc2
  have t6 := fI_of hc2 p4
  refine ur_ldI rfl rfl ?_
  refine ur_push rfl ?_
  refine ur_ldA rfl rfl ?_
  refine ur_get rfl hc2 p4 ?_
  refine ur_push rfl ?_
  refine ur_binV rfl (fun x7 e8 => ?_)
  have z9 := any_r f3
  have t10 := ti_sub e8 (by omega) (by omega)
  refine ur_callv rfl rfl (Nat.le_of_ble_eq_true rfl) (Nat.le_of_ble_eq_true rfl) rfl (sp_in _ _ _ _ _) ?_
  exact ur_ret rfl (bi_ret _) (hQ _ ⟨_, rfl, fun e => by have w := wi_to e; omega⟩ )

set_option maxRecDepth 20000 in
set_option maxHeartbeats 4000000 in
theorem sg_isWord {d kc ks : Nat} {h0 : aH} {Q : Option aV → aH → Prop} (hO0 : OK h0) (a1 : Int32) (hQ : ∀ r, (∃ q, r = some (.inl (bi q)) ∧ (q = true → 0 ≤ a1.toInt ∧ a1.toInt ≤ 149 ∧ a1.toInt < fI h0 38)) → Q r h0) : uCall Mt (d + 2) 233 [(.inr (.inr (some 69))), (.inl a1)] h0 kc ks Q := by
  have l_0 : ((0) : Int32).toInt = 0 := by decide
  have l_1 : ((1) : Int32).toInt = 1 := by decide
  refine uc_ink [some (.inr (.inr (some 69))), some (.inl a1)] mt_233 (Nat.le_of_ble_eq_true rfl) rfl ?_
  obtain ⟨fs1, hc2⟩ := hO0.mod
  obtain ⟨f3, p4, t5⟩ := mf_38 hO0 hc2
  have t6 := fI_of hc2 p4
  refine ur_ldI rfl rfl ?_
  refine ur_push rfl ?_
  refine ur_ldA rfl rfl ?_
  refine ur_get rfl hc2 p4 ?_
  refine ur_push rfl ?_
  refine ur_binV rfl (fun x7 e8 => ?_)
  have z9 := any_r f3
  have t10 := ti_sub e8 (by omega) (by omega)
  refine ur_callv rfl rfl (Nat.le_of_ble_eq_true rfl) (Nat.le_of_ble_eq_true rfl) rfl (sp_in _ _ _ _ _) ?_
  exact ur_ret rfl (bi_ret _) (hQ _ ⟨_, rfl, fun e => by have w := wi_to e; omega⟩ )

set_option maxRecDepth 20000 in
set_option maxHeartbeats 4000000 in
theorem sg_placeFor {d kc ks : Nat} {h0 : aH} {Q : Option aV → aH → Prop} (a0 : Int32) (b0 : 0 ≤ a0.toInt ∧ a0.toInt ≤ 18) (hQ : ∀ r, (∃ x : Int32, r = some (.inl x) ∧ (a0.toInt < 2 ∧ x.toInt = a0.toInt ∨ 2 ≤ a0.toInt ∧ x.toInt = a0.toInt - 8)) → Q r h0) : uCall Mt (d + 1) 226 [(.inl a0)] h0 kc ks Q := by
  have l_2 : ((2) : Int32).toInt = 2 := by decide
  have l_8 : ((8) : Int32).toInt = 8 := by decide
  refine uc_ink [some (.inl a0)] mt_226 (Nat.le_of_ble_eq_true rfl) rfl ?_
  refine ur_ldI rfl rfl ?_
  refine ur_push rfl ?_
  refine ur_if2 rfl (fun c1 => ?_) (fun c1 => ?_)
  · have t2 := le_to c1
    refine ur_ldI rfl rfl ?_
    refine ur_push rfl ?_
    refine ur_binV rfl (fun x3 e4 => ?_)
    have z5 := any_r a0
    have t6 := ti_sub e4 (by omega) (by omega)
    exact ur_ret rfl rfl (hQ _ ⟨_, rfl, by omega⟩ )
  · have t7 := le_no c1
    refine ur_ldI rfl rfl ?_
    refine ur_go rfl ?_
    exact ur_ret rfl rfl (hQ _ ⟨_, rfl, by omega⟩ )

set_option maxRecDepth 20000 in
set_option maxHeartbeats 4000000 in
theorem sf_X12_passBehind {d kc ks : Nat} {h0 : aH} {Q : Option aV → aH → Prop} (hO0 : OK h0) (hX0 : SX h0) (a1 : Int32) (a2 : Int32) (a3 : Int32) (hQ : ∀ r, (∃ x, r = some (.inl x)) → Q r h0) : uCall Mt (d + 1) 196 [(.inr (.inr (some 69))), (.inl a1), (.inl a2), (.inl a3)] h0 kc ks Q := by
  have l_0 : ((0) : Int32).toInt = 0 := by decide
  have l_1 : ((1) : Int32).toInt = 1 := by decide
  have l_2 : ((2) : Int32).toInt = 2 := by decide
  refine uc_ink [some (.inr (.inr (some 69))), some (.inl a1), some (.inl a2), some (.inl a3), none, none] mt_196 (Nat.le_of_ble_eq_true rfl) rfl ?_
  obtain ⟨fs1, hc2⟩ := hO0.mod
  obtain ⟨f3, p4, t5⟩ := mf_1 hO0 hc2
  have t6 := fI_of hc2 p4
  refine ur_ldI rfl rfl ?_
  refine ur_ldI rfl rfl ?_
  refine ur_binV rfl (fun x7 e8 => ?_)
  have z9 := any_r a1
  have z10 := any_r a2
  refine ur_svIk [some (.inr (.inr (some 69))), some (.inl a1), some (.inl a2), some (.inl a3), some (.inl x7), none] rfl rfl ?_
  refine ur_push rfl ?_
  refine ur_svIk [some (.inr (.inr (some 69))), some (.inl a1), some (.inl a2), some (.inl a3), some (.inl x7), some (.inl 0)] rfl rfl ?_
  have L13 : ∀ (m14 : Nat) (x11 : Int32) (x12 : Int32) , ((0 ≤ x12.toInt ∧ x12.toInt ≤ 2147483647)) → ((2147483648 - x12.toInt).toNat) < m14 → uRun oX12_passBehind (uCall Mt (d + 0)) Q 8 ([some (.inr (.inr (some 69))), some (.inl a1), some (.inl a2), some (.inl a3), some (.inl x11), some (.inl x12)], [], h0, kc, ks) := by
    intro m14
    induction m14 with
    | zero => intro x11 x12 iv16 mm17; omega
    | succ m14 ih15 =>
      intro x11 x12 iv16 mm17
      refine ur_ldI rfl rfl ?_
      refine ur_ldA rfl rfl ?_
      refine ur_get rfl hc2 p4 ?_
      have z18 := any_r x12
      have z19 := any_r f3
      refine ur_if2 rfl (fun c20 => ?_) (fun c20 => ?_)
      · have t21 := le_to c20
        refine ur_ldI rfl rfl ?_
        exact ur_ret rfl rfl (hQ _ ⟨_, rfl⟩ )
      · have t22 := le_no c20
        refine ur_ldI rfl rfl ?_
        refine ur_ldI rfl rfl ?_
        refine ur_binV rfl (fun x23 e24 => ?_)
        have z25 := any_r a3
        refine ur_push rfl ?_
        refine ur_binV rfl (fun x26 e27 => ?_)
        have t28 := and_1 e27
        refine ur_push rfl ?_
        refine ur_if2 rfl (fun c29 => ?_) (fun c29 => ?_)
        · have t30 := ne_to c29
          refine ur_incV (fun z => [some (.inr (.inr (some 69))), some (.inl a1), some (.inl a2), some (.inl a3), some (.inl x11), some (.inl z)]) rfl rfl (fun _ => rfl) (fun x31 e32 => ?_)
          have t33 := ti_add e32 (by omega) (by omega)
          refine ur_go rfl ?_
          have z34 := any_r x31
          exact ih15 x11 x31 (by omega) (by omega)
        · have t35 := ne_no c29
          refine ur_ldI rfl rfl ?_
          refine ur_push rfl ?_
          refine ur_ldI rfl rfl ?_
          refine ur_ldA rfl rfl ?_
          refine ur_get rfl hc2 (mf_2 hO0 hc2) ?_
          refine ur_ldI rfl rfl ?_
          obtain ⟨xs37, hc36, hn38, he39⟩ := hO0.int (hO0.fix 70 (by decide) rfl)
          refine ur_aldV rfl hc36 hn38 (by omega) (fun x40 hx41 => ?_)
          have t42 := SX.gx (j := x12) hX0 hc36 hx41 (by omega)
          refine ur_divV rfl (nz_of (by omega)) (fun x43 e44 => ?_)
          have z45 := any_r x40
          refine ur_binV rfl (fun x46 e47 => ?_)
          have z48 := any_r x43
          refine ur_ldA rfl rfl ?_
          refine ur_get rfl hc2 (mf_2 hO0 hc2) ?_
          refine ur_ldI rfl rfl ?_
          refine ur_aldV rfl hc36 hn38 (by omega) (fun x49 hx50 => ?_)
          obtain rfl : x40 = x49 := Option.some.inj (hx41.symm.trans hx50)
          have z51 := any_r x46
          refine ur_if2 rfl (fun c52 => ?_) (fun c52 => ?_)
          · have t53 := le_to c52
            refine ur_ldA rfl rfl ?_
            refine ur_get rfl hc2 (mf_3 hO0 hc2) ?_
            refine ur_ldI rfl rfl ?_
            obtain ⟨xs55, hc54, hn56, he57⟩ := hO0.int (hO0.fix 71 (by decide) rfl)
            refine ur_aldV rfl hc54 hn56 (by omega) (fun x58 hx59 => ?_)
            have t60 : 0 ≤ x58.toInt ∧ x58.toInt ≤ 60 := he57 _ _ hx59
            refine ur_unV rfl (fun x61 e62 => ?_)
            have z63 := any_r x58
            have t64 := ti_neg e62 (by omega)
            refine ur_binV rfl (fun x65 e66 => ?_)
            have z67 := any_r x11
            have z68 := any_r x61
            refine ur_svIk [some (.inr (.inr (some 69))), some (.inl a1), some (.inl a2), some (.inl a3), some (.inl x65), some (.inl x12)] rfl rfl ?_
            refine ur_incV (fun z => [some (.inr (.inr (some 69))), some (.inl a1), some (.inl a2), some (.inl a3), some (.inl x65), some (.inl z)]) rfl rfl (fun _ => rfl) (fun x69 e70 => ?_)
            have t71 := ti_add e70 (by omega) (by omega)
            refine ur_go rfl ?_
            have z72 := any_r x69
            exact ih15 x65 x69 (by omega) (by omega)
          · have t73 := le_no c52
            refine ur_ldA rfl rfl ?_
            refine ur_get rfl hc2 (mf_3 hO0 hc2) ?_
            refine ur_ldI rfl rfl ?_
            obtain ⟨xs75, hc74, hn76, he77⟩ := hO0.int (hO0.fix 71 (by decide) rfl)
            refine ur_aldV rfl hc74 hn76 (by omega) (fun x78 hx79 => ?_)
            have t80 : 0 ≤ x78.toInt ∧ x78.toInt ≤ 60 := he77 _ _ hx79
            refine ur_go rfl ?_
            refine ur_binV rfl (fun x81 e82 => ?_)
            have z83 := any_r x11
            have z84 := any_r x78
            refine ur_svIk [some (.inr (.inr (some 69))), some (.inl a1), some (.inl a2), some (.inl a3), some (.inl x81), some (.inl x12)] rfl rfl ?_
            refine ur_incV (fun z => [some (.inr (.inr (some 69))), some (.inl a1), some (.inl a2), some (.inl a3), some (.inl x81), some (.inl z)]) rfl rfl (fun _ => rfl) (fun x85 e86 => ?_)
            have t87 := ti_add e86 (by omega) (by omega)
            refine ur_go rfl ?_
            have z88 := any_r x85
            exact ih15 x81 x85 (by omega) (by omega)
  exact L13 _ x7 0 (by omega) (Nat.lt_succ_self _)

set_option maxRecDepth 20000 in
set_option maxHeartbeats 4000000 in
theorem sf_X12_passAhead {d kc ks : Nat} {h0 : aH} {Q : Option aV → aH → Prop} (hO0 : OK h0) (hX0 : SX h0) (a1 : Int32) (a2 : Int32) (hQ : ∀ r, (∃ x, r = some (.inl x)) → Q r h0) : uCall Mt (d + 2) 198 [(.inr (.inr (some 69))), (.inl a1), (.inl a2)] h0 kc ks Q := by
  have l_m1 : ((-1) : Int32).toInt = -1 := by decide
  have l_0 : ((0) : Int32).toInt = 0 := by decide
  have l_1 : ((1) : Int32).toInt = 1 := by decide
  refine uc_ink [some (.inr (.inr (some 69))), some (.inl a1), some (.inl a2), none, none, none] mt_198 (Nat.le_of_ble_eq_true rfl) rfl ?_
  refine ur_ldA rfl rfl ?_
  obtain ⟨fs1, hc2⟩ := hO0.mod
  obtain ⟨f3, p4, t5⟩ := mf_1 hO0 hc2
  have t6 := fI_of hc2 p4
  refine ur_inl rfl (rcv_of hc2) (Nat.le_of_ble_eq_true rfl) (Nat.le_of_ble_eq_true rfl) (sf_X12_pullsInAll hO0  (fun w7 hr8 => ?_))
  obtain ⟨x9, rfl, t10⟩ := hr8
  show uRun _ (uCall Mt _) _ 4 (_, [(.inl x9)], _, _, _)
  refine ur_svIk [some (.inr (.inr (some 69))), some (.inl a1), some (.inl a2), some (.inl x9), none, none] rfl rfl ?_
  refine ur_ldI rfl rfl ?_
  refine ur_ldI rfl rfl ?_
  refine ur_binV rfl (fun x11 e12 => ?_)
  have z13 := any_r a1
  have z14 := any_r a2
  refine ur_ldI rfl rfl ?_
  refine ur_binV rfl (fun x15 e16 => ?_)
  have z17 := any_r x11
  have z18 := any_r x9
  refine ur_svIk [some (.inr (.inr (some 69))), some (.inl a1), some (.inl a2), some (.inl x9), some (.inl x15), none] rfl rfl ?_
  refine ur_ldI rfl rfl ?_
  refine ur_ldI rfl rfl ?_
  refine ur_push rfl ?_
  refine ur_binV rfl (fun x19 e20 => ?_)
  have z21 := any_r x15
  have z22 := any_r x19
  refine ur_if2 rfl (fun c23 => ?_) (fun c23 => ?_)
  · have t24 := le_to c23
    refine ur_ldI rfl rfl ?_
    refine ur_svIk [some (.inr (.inr (some 69))), some (.inl a1), some (.inl a2), some (.inl x9), some (.inl x15), some (.inl x15)] rfl rfl ?_
    have L26 : ∀ (m27 : Nat) (x25 : Int32) , ((-2147483648 ≤ x25.toInt ∧ x25.toInt ≤ 2147483647)) → ((x25.toInt + 2147483649).toNat) < m27 → uRun oX12_passAhead (uCall Mt (d + 1)) Q 29 ([some (.inr (.inr (some 69))), some (.inl a1), some (.inl a2), some (.inl x9), some (.inl x15), some (.inl x25)], [], h0, kc, ks) := by
      intro m27
      induction m27 with
      | zero => intro x25 iv29 mm30; omega
      | succ m27 ih28 =>
        intro x25 iv29 mm30
        refine ur_ldI rfl rfl ?_
        refine ur_ldI rfl rfl ?_
        refine ur_ldI rfl rfl ?_
        refine ur_binV rfl (fun x31 e32 => ?_)
        have t33 : x31.toInt = x11.toInt := congrArg Int32.toInt (e32.symm.trans e12)
        refine ur_ldI rfl rfl ?_
        refine ur_binV rfl (fun x34 e35 => ?_)
        have z36 := any_r x31
        have z37 := any_r x25
        have z38 := any_r x34
        refine ur_if2 rfl (fun c39 => ?_) (fun c39 => ?_)
        · have t40 := lt_to c39
          refine ur_ldI rfl rfl ?_
          refine ur_ldI rfl rfl ?_
          refine ur_binV rfl (fun x41 e42 => ?_)
          have t43 : x41.toInt = x11.toInt := congrArg Int32.toInt (e42.symm.trans e12)
          exact ur_ret rfl rfl (hQ _ ⟨_, rfl⟩ )
        · have t44 := lt_no c39
          refine ur_ldI rfl rfl ?_
          refine ur_if1 rfl (fun c45 => ?_) (fun c45 => ?_)
          · have t46 := lt_to c45
            refine ur_ldI rfl rfl ?_
            refine ur_ldI rfl rfl ?_
            refine ur_binV rfl (fun x47 e48 => ?_)
            have t49 : x47.toInt = x11.toInt := congrArg Int32.toInt (e48.symm.trans e12)
            exact ur_ret rfl rfl (hQ _ ⟨_, rfl⟩ )
          · have t50 := lt_no c45
            refine ur_ldA rfl rfl ?_
            refine ur_ldI rfl rfl ?_
            refine ur_ldI rfl rfl ?_
            refine ur_ldA rfl rfl ?_
            refine ur_inl rfl (rcv_of hc2) (Nat.le_of_ble_eq_true rfl) (Nat.le_of_ble_eq_true rfl) (sf_X12_allGreats hO0  (fun w51 hr52 => ?_))
            obtain ⟨x53, rfl, t54⟩ := hr52
            show uRun _ (uCall Mt _) _ 52 (_, [(.inl x53), (.inl a2), (.inl x25), (.inr (.inr (some 69)))], _, _, _)
            refine ur_inl rfl (rcv_of hc2) (Nat.le_of_ble_eq_true rfl) (Nat.le_of_ble_eq_true rfl) (sf_X12_passBehind hO0 hX0 _ _ _ (fun w55 hr56 => ?_))
            obtain ⟨x57, rfl⟩ := hr56
            show uRun _ (uCall Mt _) _ 55 (_, [(.inl x57)], _, _, _)
            refine ur_ldI rfl rfl ?_
            have z58 := any_r x57
            refine ur_if2 rfl (fun c59 => ?_) (fun c59 => ?_)
            · have t60 := ne_to c59
              refine ur_incV (fun z => [some (.inr (.inr (some 69))), some (.inl a1), some (.inl a2), some (.inl x9), some (.inl x15), some (.inl z)]) rfl rfl (fun _ => rfl) (fun x61 e62 => ?_)
              have t63 := ti_add e62 (by omega) (by omega)
              refine ur_go rfl ?_
              have z64 := any_r x61
              exact ih28 x61 (by omega) (by omega)
            · have t65 := ne_no c59
              refine ur_ldI rfl rfl ?_
              exact ur_ret rfl rfl (hQ _ ⟨_, rfl⟩ )
    exact L26 _ x15 (by omega) (Nat.lt_succ_self _)
  · have t66 := le_no c23
    refine ur_ldI rfl rfl ?_
    refine ur_push rfl ?_
    refine ur_binV rfl (fun x67 e68 => ?_)
    have t69 : x67.toInt = x19.toInt := congrArg Int32.toInt (e68.symm.trans e20)
    refine ur_svIk [some (.inr (.inr (some 69))), some (.inl a1), some (.inl a2), some (.inl x9), some (.inl x67), none] rfl rfl ?_
    refine ur_ldI rfl rfl ?_
    refine ur_svIk [some (.inr (.inr (some 69))), some (.inl a1), some (.inl a2), some (.inl x9), some (.inl x67), some (.inl x67)] rfl rfl ?_
    have L71 : ∀ (m72 : Nat) (x70 : Int32) , ((-2147483648 ≤ x70.toInt ∧ x70.toInt ≤ 2147483647)) → ((x70.toInt + 2147483649).toNat) < m72 → uRun oX12_passAhead (uCall Mt (d + 1)) Q 29 ([some (.inr (.inr (some 69))), some (.inl a1), some (.inl a2), some (.inl x9), some (.inl x67), some (.inl x70)], [], h0, kc, ks) := by
      intro m72
      induction m72 with
      | zero => intro x70 iv74 mm75; omega
      | succ m72 ih73 =>
        intro x70 iv74 mm75
        refine ur_ldI rfl rfl ?_
        refine ur_ldI rfl rfl ?_
        refine ur_ldI rfl rfl ?_
        refine ur_binV rfl (fun x76 e77 => ?_)
        have t78 : x76.toInt = x11.toInt := congrArg Int32.toInt (e77.symm.trans e12)
        refine ur_ldI rfl rfl ?_
        refine ur_binV rfl (fun x79 e80 => ?_)
        have z81 := any_r x76
        have z82 := any_r x70
        have z83 := any_r x79
        refine ur_if2 rfl (fun c84 => ?_) (fun c84 => ?_)
        · have t85 := lt_to c84
          refine ur_ldI rfl rfl ?_
          refine ur_ldI rfl rfl ?_
          refine ur_binV rfl (fun x86 e87 => ?_)
          have t88 : x86.toInt = x11.toInt := congrArg Int32.toInt (e87.symm.trans e12)
          exact ur_ret rfl rfl (hQ _ ⟨_, rfl⟩ )
        · have t89 := lt_no c84
          refine ur_ldI rfl rfl ?_
          refine ur_if1 rfl (fun c90 => ?_) (fun c90 => ?_)
          · have t91 := lt_to c90
            refine ur_ldI rfl rfl ?_
            refine ur_ldI rfl rfl ?_
            refine ur_binV rfl (fun x92 e93 => ?_)
            have t94 : x92.toInt = x11.toInt := congrArg Int32.toInt (e93.symm.trans e12)
            exact ur_ret rfl rfl (hQ _ ⟨_, rfl⟩ )
          · have t95 := lt_no c90
            refine ur_ldA rfl rfl ?_
            refine ur_ldI rfl rfl ?_
            refine ur_ldI rfl rfl ?_
            refine ur_ldA rfl rfl ?_
            refine ur_inl rfl (rcv_of hc2) (Nat.le_of_ble_eq_true rfl) (Nat.le_of_ble_eq_true rfl) (sf_X12_allGreats hO0  (fun w96 hr97 => ?_))
            obtain ⟨x98, rfl, t99⟩ := hr97
            show uRun _ (uCall Mt _) _ 52 (_, [(.inl x98), (.inl a2), (.inl x70), (.inr (.inr (some 69)))], _, _, _)
            refine ur_inl rfl (rcv_of hc2) (Nat.le_of_ble_eq_true rfl) (Nat.le_of_ble_eq_true rfl) (sf_X12_passBehind hO0 hX0 _ _ _ (fun w100 hr101 => ?_))
            obtain ⟨x102, rfl⟩ := hr101
            show uRun _ (uCall Mt _) _ 55 (_, [(.inl x102)], _, _, _)
            refine ur_ldI rfl rfl ?_
            have z103 := any_r x102
            refine ur_if2 rfl (fun c104 => ?_) (fun c104 => ?_)
            · have t105 := ne_to c104
              refine ur_incV (fun z => [some (.inr (.inr (some 69))), some (.inl a1), some (.inl a2), some (.inl x9), some (.inl x67), some (.inl z)]) rfl rfl (fun _ => rfl) (fun x106 e107 => ?_)
              have t108 := ti_add e107 (by omega) (by omega)
              refine ur_go rfl ?_
              have z109 := any_r x106
              exact ih73 x106 (by omega) (by omega)
            · have t110 := ne_no c104
              refine ur_ldI rfl rfl ?_
              exact ur_ret rfl rfl (hQ _ ⟨_, rfl⟩ )
    have z111 := any_r x67
    exact L71 _ x67 (by omega) (Nat.lt_succ_self _)

set_option maxRecDepth 20000 in
set_option maxHeartbeats 4000000 in
theorem sf_X12_findPasses {d kc ks : Nat} {h0 : aH} {Q : Option aV → aH → Prop} (hO0 : OK h0) (hX0 : SX h0) (a1 : Int32) (b1 : 0 ≤ a1.toInt ∧ a1.toInt ≤ 11) (hQ : ∀ r h', (r = none) → OK h' → un [80, 81] h0 h' → Q r h') : uCall Mt (d + 3) 199 [(.inr (.inr (some 69))), (.inl a1)] h0 kc ks Q := by
  have l_m1 : ((-1) : Int32).toInt = -1 := by decide
  have l_0 : ((0) : Int32).toInt = 0 := by decide
  have l_1 : ((1) : Int32).toInt = 1 := by decide
  have l_60 : ((60) : Int32).toInt = 60 := by decide
  have l_121 : ((121) : Int32).toInt = 121 := by decide
  have l_999999 : ((999999) : Int32).toInt = 999999 := by decide
  refine uc_ink [some (.inr (.inr (some 69))), some (.inl a1), none, none, none] mt_199 (Nat.le_of_ble_eq_true rfl) rfl ?_
  refine ur_ldA rfl rfl ?_
  obtain ⟨fs1, hc2⟩ := hO0.mod
  refine ur_get rfl hc2 (mf_14 hO0 hc2) ?_
  refine ur_ldI rfl rfl ?_
  obtain ⟨xs4, hc3, hn5, he6⟩ := hO0.boo (hO0.fix 81 (by decide) rfl)
  refine ur_aldV rfl hc3 hn5 (by omega) (fun x7 hx8 => ?_)
  refine ur_if1 rfl (fun c9 => ?_) (fun c9 => ?_)
  · have t10 := eq_to c9
    refine ur_ldA rfl rfl ?_
    refine ur_get rfl hc2 (mf_14 hO0 hc2) ?_
    refine ur_ldI rfl rfl ?_
    refine ur_push rfl ?_
    refine ur_astV (W := [80, 81]) (m := 12) rfl hO0 hc3 (by decide) hn5 (by omega) (any_r _) (Or.inr (Or.inr (wid_fix (by decide) (by decide)))) (fun h13 hO13 hu13 d11 hc12 => ?_)
    refine ur_push rfl ?_
    refine ur_ldI rfl rfl ?_
    refine ur_binV rfl (fun x14 e15 => ?_)
    have z16 := any_r a1
    have t17 := ti_mulR e15 l_121 (by omega) (by omega)
    refine ur_push rfl ?_
    refine ur_binV rfl (fun x18 e19 => ?_)
    have z20 := any_r x14
    have t21 := ti_add e19 (by omega) (by omega)
    refine ur_svIk [some (.inr (.inr (some 69))), some (.inl a1), some (.inl x18), none, none] rfl rfl ?_
    refine ur_ldA rfl rfl ?_
    refine ur_get rfl ((d11 _ (by decide)).trans hc2) (mf_13 hO13 ((d11 _ (by decide)).trans hc2)) ?_
    refine ur_ldI rfl rfl ?_
    refine ur_ldA rfl rfl ?_
    refine ur_get rfl ((d11 _ (by decide)).trans hc2) (mf_5 hO13 ((d11 _ (by decide)).trans hc2)) ?_
    refine ur_ldI rfl rfl ?_
    obtain ⟨xs23, hc22, hn24, he25⟩ := hO13.int (hO13.fix 72 (by decide) rfl)
    refine ur_aldV rfl hc22 hn24 (by omega) (fun x26 hx27 => ?_)
    have t28 : 0 ≤ x26.toInt ∧ x26.toInt ≤ 999999 := he25 _ _ hx27
    obtain ⟨xs30, hc29, hn31, he32⟩ := hO13.int (hO13.fix 80 (by decide) rfl)
    refine ur_astV (W := [80, 81]) (m := 1452) rfl hO13 hc29 (by decide) hn31 (by omega) (by show -1 ≤ x26.toInt ∧ x26.toInt ≤ 999999; omega) (Or.inr (Or.inr (wid_fix (by decide) (by decide)))) (fun h35 hO35 hu35 d33 hc34 => ?_)
    refine ur_ldA rfl rfl ?_
    refine ur_get rfl ((d33 _ (by decide)).trans ((d11 _ (by decide)).trans hc2)) (mf_5 hO35 ((d33 _ (by decide)).trans ((d11 _ (by decide)).trans hc2))) ?_
    refine ur_ldI rfl rfl ?_
    refine ur_aldV rfl ((d33 _ (by decide)).trans hc22) hn24 (by omega) (fun x36 hx37 => ?_)
    obtain rfl : x26 = x36 := Option.some.inj (hx27.symm.trans hx37)
    refine ur_svIk [some (.inr (.inr (some 69))), some (.inl a1), some (.inl x18), some (.inl x26), none] rfl rfl ?_
    refine ur_push rfl ?_
    refine ur_svIk [some (.inr (.inr (some 69))), some (.inl a1), some (.inl x18), some (.inl x26), some (.inl 1)] rfl rfl ?_
    have L40 : ∀ (m41 : Nat) (x38 : Int32) (x39 : Int32) (h43 : aH) , OK h43 → un [80, 81] h35 h43 → ((-1 ≤ x38.toInt ∧ x38.toInt ≤ 999999) ∧ (1 ≤ x39.toInt ∧ x39.toInt ≤ 61)) → ((62 - x39.toInt).toNat) < m41 → uRun oX12_findPasses (uCall Mt (d + 2)) Q 47 ([some (.inr (.inr (some 69))), some (.inl a1), some (.inl x18), some (.inl x38), some (.inl x39)], [], h43, kc, ks) := by
      intro m41
      induction m41 with
      | zero => intro x38 x39 h43 hO43 hu43 iv44 mm45; omega
      | succ m41 ih42 =>
        intro x38 x39 h43 hO43 hu43 iv44 mm45
        refine ur_ldI rfl rfl ?_
        refine ur_push rfl ?_
        refine ur_if2 rfl (fun c46 => ?_) (fun c46 => ?_)
        · have t47 := lt_to c46
          refine ur_ldA rfl rfl ?_
          obtain ⟨fs48, hc49⟩ := hO43.mod
          refine ur_get rfl hc49 (mf_5 hO43 hc49) ?_
          refine ur_ldI rfl rfl ?_
          refine ur_aldV rfl (hu43.ka (n := 12) ((d33 _ (by decide)).trans hc22) hn24 rfl (by decide) (wid_f (by decide)) (by decide)) hn24 (by omega) (fun x50 hx51 => ?_)
          obtain rfl : x26 = x50 := Option.some.inj (hx27.symm.trans hx51)
          refine ur_svIk [some (.inr (.inr (some 69))), some (.inl a1), some (.inl x18), some (.inl x26), some (.inl x39)] rfl rfl ?_
          refine ur_push rfl ?_
          refine ur_svIk [some (.inr (.inr (some 69))), some (.inl a1), some (.inl x18), some (.inl x26), some (.inl 1)] rfl rfl ?_
          have L54 : ∀ (m55 : Nat) (x52 : Int32) (x53 : Int32) (h57 : aH) , OK h57 → un [80, 81] h43 h57 → ((-1 ≤ x52.toInt ∧ x52.toInt ≤ 999999) ∧ (1 ≤ x53.toInt ∧ x53.toInt ≤ 61)) → ((62 - x53.toInt).toNat) < m55 → uRun oX12_findPasses (uCall Mt (d + 2)) Q 109 ([some (.inr (.inr (some 69))), some (.inl a1), some (.inl x18), some (.inl x52), some (.inl x53)], [], h57, kc, ks) := by
            intro m55
            induction m55 with
            | zero => intro x52 x53 h57 hO57 hu57 iv58 mm59; omega
            | succ m55 ih56 =>
              intro x52 x53 h57 hO57 hu57 iv58 mm59
              refine ur_ldI rfl rfl ?_
              refine ur_push rfl ?_
              refine ur_if2 rfl (fun c60 => ?_) (fun c60 => ?_)
              · have t61 := lt_to c60
                exact ur_ret0 rfl (hQ _ _ rfl hO57 (hu13.tr (hu35.tr (hu43.tr hu57))))
              · have t62 := lt_no c60
                refine ur_ldI rfl rfl ?_
                refine ur_if1 rfl (fun c63 => ?_) (fun c63 => ?_)
                · have t64 := lt_to c63
                  refine ur_ldI rfl rfl ?_
                  refine ur_callv rfl rfl (Nat.le_of_ble_eq_true rfl) (Nat.le_of_ble_eq_true rfl) rfl (sq_isDay _ _) ?_
                  refine ur_neB rfl (fun c67 => ?_) (fun c67 => ?_)
                  · have t68 := wi_toL c67 l_0 l_999999
                    refine ur_ldA rfl rfl ?_
                    obtain ⟨fs69, hc70⟩ := hO57.mod
                    refine ur_get rfl hc70 (mf_13 hO57 hc70) ?_
                    refine ur_ldI rfl rfl ?_
                    refine ur_ldI rfl rfl ?_
                    refine ur_binV rfl (fun x71 e72 => ?_)
                    have z73 := any_r x18
                    have z74 := any_r x53
                    have t75 := ti_sub e72 (by omega) (by omega)
                    refine ur_ldI rfl rfl ?_
                    obtain ⟨xs77, hc76, hn78, he79⟩ := hO57.int (hO57.fix 80 (by decide) rfl)
                    refine ur_astV (W := [80, 81]) (m := 1452) rfl hO57 hc76 (by decide) hn78 (by omega) (by show -1 ≤ x52.toInt ∧ x52.toInt ≤ 999999; omega) (Or.inr (Or.inr (wid_fix (by decide) (by decide)))) (fun h82 hO82 hu82 d80 hc81 => ?_)
                    refine ur_incV (fun z => [some (.inr (.inr (some 69))), some (.inl a1), some (.inl x18), some (.inl x52), some (.inl z)]) rfl rfl (fun _ => rfl) (fun x83 e84 => ?_)
                    have t85 := ti_add e84 (by omega) (by omega)
                    refine ur_go rfl ?_
                    have z86 := any_r x52
                    have z87 := any_r x83
                    exact ih56 x52 x83 _ hO82 (hu57.tr hu82) (by omega) (by omega)
                  · have t88 := wi_noL c67 l_0 l_999999
                    refine ur_push rfl ?_
                    refine ur_svIk [some (.inr (.inr (some 69))), some (.inl a1), some (.inl x18), some (.inl (-1)), some (.inl x53)] rfl rfl ?_
                    refine ur_ldA rfl rfl ?_
                    obtain ⟨fs89, hc90⟩ := hO57.mod
                    refine ur_get rfl hc90 (mf_13 hO57 hc90) ?_
                    refine ur_ldI rfl rfl ?_
                    refine ur_ldI rfl rfl ?_
                    refine ur_binV rfl (fun x91 e92 => ?_)
                    have z93 := any_r x18
                    have z94 := any_r x53
                    have t95 := ti_sub e92 (by omega) (by omega)
                    refine ur_ldI rfl rfl ?_
                    obtain ⟨xs97, hc96, hn98, he99⟩ := hO57.int (hO57.fix 80 (by decide) rfl)
                    refine ur_astV (W := [80, 81]) (m := 1452) rfl hO57 hc96 (by decide) hn98 (by omega) (by show -1 ≤ ((-1) : Int32).toInt ∧ ((-1) : Int32).toInt ≤ 999999; omega) (Or.inr (Or.inr (wid_fix (by decide) (by decide)))) (fun h102 hO102 hu102 d100 hc101 => ?_)
                    refine ur_incV (fun z => [some (.inr (.inr (some 69))), some (.inl a1), some (.inl x18), some (.inl (-1)), some (.inl z)]) rfl rfl (fun _ => rfl) (fun x103 e104 => ?_)
                    have t105 := ti_add e104 (by omega) (by omega)
                    refine ur_go rfl ?_
                    have z106 := any_r x103
                    exact ih56 (-1) x103 _ hO102 (hu57.tr hu102) (by omega) (by omega)
                · have t107 := lt_no c63
                  refine ur_ldA rfl rfl ?_
                  refine ur_ldI rfl rfl ?_
                  refine ur_ldA rfl rfl ?_
                  obtain ⟨fs108, hc109⟩ := hO57.mod
                  refine ur_get rfl hc109 (mf_6 hO57 hc109) ?_
                  refine ur_ldI rfl rfl ?_
                  obtain ⟨xs111, hc110, hn112, he113⟩ := hO57.int (hO57.fix 73 (by decide) rfl)
                  refine ur_aldV rfl hc110 hn112 (by omega) (fun x114 hx115 => ?_)
                  refine ur_inl rfl (rcv_of hc109) (Nat.le_of_ble_eq_true rfl) (Nat.le_of_ble_eq_true rfl) (sf_X12_passAhead hO57 (hX0.un hO0 hO57 (hu13.tr (hu35.tr (hu43.tr hu57))) (by decide)) _ _ (fun w116 hr117 => ?_))
                  obtain ⟨x118, rfl⟩ := hr117
                  show uRun _ (uCall Mt _) _ 131 (_, [(.inl x118)], _, _, _)
                  refine ur_svIk [some (.inr (.inr (some 69))), some (.inl a1), some (.inl x18), some (.inl x118), some (.inl x53)] rfl rfl ?_
                  refine ur_ldI rfl rfl ?_
                  refine ur_callv rfl rfl (Nat.le_of_ble_eq_true rfl) (Nat.le_of_ble_eq_true rfl) rfl (sq_isDay _ _) ?_
                  refine ur_neB rfl (fun c121 => ?_) (fun c121 => ?_)
                  · have t122 := wi_toL c121 l_0 l_999999
                    refine ur_ldA rfl rfl ?_
                    refine ur_get rfl hc109 (mf_13 hO57 hc109) ?_
                    refine ur_ldI rfl rfl ?_
                    refine ur_ldI rfl rfl ?_
                    refine ur_binV rfl (fun x123 e124 => ?_)
                    have z125 := any_r x18
                    have z126 := any_r x53
                    have t127 := ti_sub e124 (by omega) (by omega)
                    refine ur_ldI rfl rfl ?_
                    obtain ⟨xs129, hc128, hn130, he131⟩ := hO57.int (hO57.fix 80 (by decide) rfl)
                    refine ur_astV (W := [80, 81]) (m := 1452) rfl hO57 hc128 (by decide) hn130 (by omega) (by show -1 ≤ x118.toInt ∧ x118.toInt ≤ 999999; omega) (Or.inr (Or.inr (wid_fix (by decide) (by decide)))) (fun h134 hO134 hu134 d132 hc133 => ?_)
                    refine ur_incV (fun z => [some (.inr (.inr (some 69))), some (.inl a1), some (.inl x18), some (.inl x118), some (.inl z)]) rfl rfl (fun _ => rfl) (fun x135 e136 => ?_)
                    have t137 := ti_add e136 (by omega) (by omega)
                    refine ur_go rfl ?_
                    have z138 := any_r x118
                    have z139 := any_r x135
                    exact ih56 x118 x135 _ hO134 (hu57.tr hu134) (by omega) (by omega)
                  · have t140 := wi_noL c121 l_0 l_999999
                    refine ur_push rfl ?_
                    refine ur_svIk [some (.inr (.inr (some 69))), some (.inl a1), some (.inl x18), some (.inl (-1)), some (.inl x53)] rfl rfl ?_
                    refine ur_ldA rfl rfl ?_
                    refine ur_get rfl hc109 (mf_13 hO57 hc109) ?_
                    refine ur_ldI rfl rfl ?_
                    refine ur_ldI rfl rfl ?_
                    refine ur_binV rfl (fun x141 e142 => ?_)
                    have z143 := any_r x18
                    have z144 := any_r x53
                    have t145 := ti_sub e142 (by omega) (by omega)
                    refine ur_ldI rfl rfl ?_
                    obtain ⟨xs147, hc146, hn148, he149⟩ := hO57.int (hO57.fix 80 (by decide) rfl)
                    refine ur_astV (W := [80, 81]) (m := 1452) rfl hO57 hc146 (by decide) hn148 (by omega) (by show -1 ≤ ((-1) : Int32).toInt ∧ ((-1) : Int32).toInt ≤ 999999; omega) (Or.inr (Or.inr (wid_fix (by decide) (by decide)))) (fun h152 hO152 hu152 d150 hc151 => ?_)
                    refine ur_incV (fun z => [some (.inr (.inr (some 69))), some (.inl a1), some (.inl x18), some (.inl (-1)), some (.inl z)]) rfl rfl (fun _ => rfl) (fun x153 e154 => ?_)
                    have t155 := ti_add e154 (by omega) (by omega)
                    refine ur_go rfl ?_
                    have z156 := any_r x153
                    exact ih56 (-1) x153 _ hO152 (hu57.tr hu152) (by omega) (by omega)
          have z157 := any_r x26
          exact L54 _ x26 1 _ hO43 un.rf (by omega) (Nat.lt_succ_self _)
        · have t158 := lt_no c46
          refine ur_ldI rfl rfl ?_
          refine ur_if1 rfl (fun c159 => ?_) (fun c159 => ?_)
          · have t160 := lt_to c159
            refine ur_ldI rfl rfl ?_
            refine ur_callv rfl rfl (Nat.le_of_ble_eq_true rfl) (Nat.le_of_ble_eq_true rfl) rfl (sq_isDay _ _) ?_
            refine ur_neB rfl (fun c163 => ?_) (fun c163 => ?_)
            · have t164 := wi_toL c163 l_0 l_999999
              refine ur_ldA rfl rfl ?_
              obtain ⟨fs165, hc166⟩ := hO43.mod
              refine ur_get rfl hc166 (mf_13 hO43 hc166) ?_
              refine ur_ldI rfl rfl ?_
              refine ur_ldI rfl rfl ?_
              refine ur_binV rfl (fun x167 e168 => ?_)
              have z169 := any_r x18
              have z170 := any_r x39
              have t171 := ti_add e168 (by omega) (by omega)
              refine ur_ldI rfl rfl ?_
              obtain ⟨xs173, hc172, hn174, he175⟩ := hO43.int (hO43.fix 80 (by decide) rfl)
              refine ur_astV (W := [80, 81]) (m := 1452) rfl hO43 hc172 (by decide) hn174 (by omega) (by show -1 ≤ x38.toInt ∧ x38.toInt ≤ 999999; omega) (Or.inr (Or.inr (wid_fix (by decide) (by decide)))) (fun h178 hO178 hu178 d176 hc177 => ?_)
              refine ur_incV (fun z => [some (.inr (.inr (some 69))), some (.inl a1), some (.inl x18), some (.inl x38), some (.inl z)]) rfl rfl (fun _ => rfl) (fun x179 e180 => ?_)
              have t181 := ti_add e180 (by omega) (by omega)
              refine ur_go rfl ?_
              have z182 := any_r x38
              have z183 := any_r x179
              exact ih42 x38 x179 _ hO178 (hu43.tr hu178) (by omega) (by omega)
            · have t184 := wi_noL c163 l_0 l_999999
              refine ur_push rfl ?_
              refine ur_svIk [some (.inr (.inr (some 69))), some (.inl a1), some (.inl x18), some (.inl (-1)), some (.inl x39)] rfl rfl ?_
              refine ur_ldA rfl rfl ?_
              obtain ⟨fs185, hc186⟩ := hO43.mod
              refine ur_get rfl hc186 (mf_13 hO43 hc186) ?_
              refine ur_ldI rfl rfl ?_
              refine ur_ldI rfl rfl ?_
              refine ur_binV rfl (fun x187 e188 => ?_)
              have z189 := any_r x18
              have z190 := any_r x39
              have t191 := ti_add e188 (by omega) (by omega)
              refine ur_ldI rfl rfl ?_
              obtain ⟨xs193, hc192, hn194, he195⟩ := hO43.int (hO43.fix 80 (by decide) rfl)
              refine ur_astV (W := [80, 81]) (m := 1452) rfl hO43 hc192 (by decide) hn194 (by omega) (by show -1 ≤ ((-1) : Int32).toInt ∧ ((-1) : Int32).toInt ≤ 999999; omega) (Or.inr (Or.inr (wid_fix (by decide) (by decide)))) (fun h198 hO198 hu198 d196 hc197 => ?_)
              refine ur_incV (fun z => [some (.inr (.inr (some 69))), some (.inl a1), some (.inl x18), some (.inl (-1)), some (.inl z)]) rfl rfl (fun _ => rfl) (fun x199 e200 => ?_)
              have t201 := ti_add e200 (by omega) (by omega)
              refine ur_go rfl ?_
              have z202 := any_r x199
              exact ih42 (-1) x199 _ hO198 (hu43.tr hu198) (by omega) (by omega)
          · have t203 := lt_no c159
            refine ur_ldA rfl rfl ?_
            refine ur_ldI rfl rfl ?_
            refine ur_ldA rfl rfl ?_
            obtain ⟨fs204, hc205⟩ := hO43.mod
            refine ur_get rfl hc205 (mf_6 hO43 hc205) ?_
            refine ur_ldI rfl rfl ?_
            obtain ⟨xs207, hc206, hn208, he209⟩ := hO43.int (hO43.fix 73 (by decide) rfl)
            refine ur_aldV rfl hc206 hn208 (by omega) (fun x210 hx211 => ?_)
            refine ur_ldA rfl rfl ?_
            refine ur_inl rfl (rcv_of hc205) (Nat.le_of_ble_eq_true rfl) (Nat.le_of_ble_eq_true rfl) (sf_X12_allGreats hO43  (fun w212 hr213 => ?_))
            obtain ⟨x214, rfl, t215⟩ := hr213
            show uRun _ (uCall Mt _) _ 70 (_, [(.inl x214), (.inl x210), (.inl x38), (.inr (.inr (some 69)))], _, _, _)
            obtain ⟨f216, p217, t218⟩ := mf_1 hO43 hc205
            have t219 := fI_of hc205 p217
            refine ur_inl rfl (rcv_of hc205) (Nat.le_of_ble_eq_true rfl) (Nat.le_of_ble_eq_true rfl) (sf_X12_passBehind hO43 (hX0.un hO0 hO43 (hu13.tr (hu35.tr hu43)) (by decide)) _ _ _ (fun w220 hr221 => ?_))
            obtain ⟨x222, rfl⟩ := hr221
            show uRun _ (uCall Mt _) _ 73 (_, [(.inl x222)], _, _, _)
            refine ur_svIk [some (.inr (.inr (some 69))), some (.inl a1), some (.inl x18), some (.inl x222), some (.inl x39)] rfl rfl ?_
            refine ur_ldI rfl rfl ?_
            refine ur_callv rfl rfl (Nat.le_of_ble_eq_true rfl) (Nat.le_of_ble_eq_true rfl) rfl (sq_isDay _ _) ?_
            refine ur_neB rfl (fun c225 => ?_) (fun c225 => ?_)
            · have t226 := wi_toL c225 l_0 l_999999
              refine ur_ldA rfl rfl ?_
              refine ur_get rfl hc205 (mf_13 hO43 hc205) ?_
              refine ur_ldI rfl rfl ?_
              refine ur_ldI rfl rfl ?_
              refine ur_binV rfl (fun x227 e228 => ?_)
              have z229 := any_r x18
              have z230 := any_r x39
              have t231 := ti_add e228 (by omega) (by omega)
              refine ur_ldI rfl rfl ?_
              obtain ⟨xs233, hc232, hn234, he235⟩ := hO43.int (hO43.fix 80 (by decide) rfl)
              refine ur_astV (W := [80, 81]) (m := 1452) rfl hO43 hc232 (by decide) hn234 (by omega) (by show -1 ≤ x222.toInt ∧ x222.toInt ≤ 999999; omega) (Or.inr (Or.inr (wid_fix (by decide) (by decide)))) (fun h238 hO238 hu238 d236 hc237 => ?_)
              refine ur_incV (fun z => [some (.inr (.inr (some 69))), some (.inl a1), some (.inl x18), some (.inl x222), some (.inl z)]) rfl rfl (fun _ => rfl) (fun x239 e240 => ?_)
              have t241 := ti_add e240 (by omega) (by omega)
              refine ur_go rfl ?_
              have z242 := any_r x222
              have z243 := any_r x239
              exact ih42 x222 x239 _ hO238 (hu43.tr hu238) (by omega) (by omega)
            · have t244 := wi_noL c225 l_0 l_999999
              refine ur_push rfl ?_
              refine ur_svIk [some (.inr (.inr (some 69))), some (.inl a1), some (.inl x18), some (.inl (-1)), some (.inl x39)] rfl rfl ?_
              refine ur_ldA rfl rfl ?_
              refine ur_get rfl hc205 (mf_13 hO43 hc205) ?_
              refine ur_ldI rfl rfl ?_
              refine ur_ldI rfl rfl ?_
              refine ur_binV rfl (fun x245 e246 => ?_)
              have z247 := any_r x18
              have z248 := any_r x39
              have t249 := ti_add e246 (by omega) (by omega)
              refine ur_ldI rfl rfl ?_
              obtain ⟨xs251, hc250, hn252, he253⟩ := hO43.int (hO43.fix 80 (by decide) rfl)
              refine ur_astV (W := [80, 81]) (m := 1452) rfl hO43 hc250 (by decide) hn252 (by omega) (by show -1 ≤ ((-1) : Int32).toInt ∧ ((-1) : Int32).toInt ≤ 999999; omega) (Or.inr (Or.inr (wid_fix (by decide) (by decide)))) (fun h256 hO256 hu256 d254 hc255 => ?_)
              refine ur_incV (fun z => [some (.inr (.inr (some 69))), some (.inl a1), some (.inl x18), some (.inl (-1)), some (.inl z)]) rfl rfl (fun _ => rfl) (fun x257 e258 => ?_)
              have t259 := ti_add e258 (by omega) (by omega)
              refine ur_go rfl ?_
              have z260 := any_r x257
              exact ih42 (-1) x257 _ hO256 (hu43.tr hu256) (by omega) (by omega)
    have z261 := any_r x26
    exact L40 _ x26 1 _ hO35 un.rf (by omega) (Nat.lt_succ_self _)
  · have t262 := eq_no c9
    exact ur_ret0 rfl (hQ _ _ rfl hO0 un.rf)

set_option maxRecDepth 20000 in
set_option maxHeartbeats 4000000 in
theorem sf_X12_passOf {d kc ks : Nat} {h0 : aH} {Q : Option aV → aH → Prop} (hO0 : OK h0) (hX0 : SX h0) (a1 : Int32) (b1 : 0 ≤ a1.toInt ∧ a1.toInt ≤ 11) (a2 : Int32) (b2 : -60 ≤ a2.toInt ∧ a2.toInt ≤ 60) (hQ : ∀ r h', (∃ x : Int32, r = some (.inl x) ∧ -1 ≤ x.toInt ∧ x.toInt ≤ 999999) → OK h' → un [80, 81] h0 h' → Q r h') : uCall Mt (d + 4) 200 [(.inr (.inr (some 69))), (.inl a1), (.inl a2)] h0 kc ks Q := by
  have l_60 : ((60) : Int32).toInt = 60 := by decide
  have l_121 : ((121) : Int32).toInt = 121 := by decide
  refine uc_ink [some (.inr (.inr (some 69))), some (.inl a1), some (.inl a2)] mt_200 (Nat.le_of_ble_eq_true rfl) rfl ?_
  refine ur_ldA rfl rfl ?_
  refine ur_ldI rfl rfl ?_
  obtain ⟨fs1, hc2⟩ := hO0.mod
  refine ur_inl rfl (rcv_of hc2) (Nat.le_of_ble_eq_true rfl) (Nat.le_of_ble_eq_true rfl) (sf_X12_findPasses hO0 hX0 _ (by show 0 ≤ a1.toInt ∧ a1.toInt ≤ 11; omega) (fun w3 h5 hr4 hO5 hv5 => ?_))
  have hu5 := hv5
  subst hr4
  show uRun _ (uCall Mt _) _ 5 (_, [], _, _, _)
  refine ur_ldA rfl rfl ?_
  obtain ⟨fs6, hc7⟩ := hO5.mod
  refine ur_get rfl hc7 (mf_13 hO5 hc7) ?_
  refine ur_push rfl ?_
  refine ur_ldI rfl rfl ?_
  refine ur_binV rfl (fun x8 e9 => ?_)
  have z10 := any_r a1
  have t11 := ti_mulR e9 l_121 (by omega) (by omega)
  refine ur_push rfl ?_
  refine ur_binV rfl (fun x12 e13 => ?_)
  have z14 := any_r x8
  have t15 := ti_add e13 (by omega) (by omega)
  refine ur_ldI rfl rfl ?_
  refine ur_binV rfl (fun x16 e17 => ?_)
  have z18 := any_r x12
  have z19 := any_r a2
  have t20 := ti_add e17 (by omega) (by omega)
  obtain ⟨xs22, hc21, hn23, he24⟩ := hO5.int (hO5.fix 80 (by decide) rfl)
  refine ur_aldV rfl hc21 hn23 (by omega) (fun x25 hx26 => ?_)
  have t27 : -1 ≤ x25.toInt ∧ x25.toInt ≤ 999999 := he24 _ _ hx26
  exact ur_ret rfl rfl (hQ _ _ ⟨_, rfl, by omega⟩ hO5 hu5)

set_option maxRecDepth 20000 in
set_option maxHeartbeats 4000000 in
theorem sf_X12_pass {d kc ks : Nat} {h0 : aH} {Q : Option aV → aH → Prop} (hO0 : OK h0) (hX0 : SX h0) (a1 : Int32) (a2 : Int32) (a3 : Int32) (hQ : ∀ r h', (∃ x, r = some (.inl x)) → OK h' → un [80, 81] h0 h' → Q r h') : uCall Mt (d + 5) 202 [(.inr (.inr (some 69))), (.inl a1), (.inl a2), (.inl a3)] h0 kc ks Q := by
  have l_m60 : ((-60) : Int32).toInt = -60 := by decide
  have l_m2 : ((-2) : Int32).toInt = -2 := by decide
  have l_m1 : ((-1) : Int32).toInt = -1 := by decide
  have l_0 : ((0) : Int32).toInt = 0 := by decide
  have l_1 : ((1) : Int32).toInt = 1 := by decide
  have l_60 : ((60) : Int32).toInt = 60 := by decide
  refine uc_ink [some (.inr (.inr (some 69))), some (.inl a1), some (.inl a2), some (.inl a3), none] mt_202 (Nat.le_of_ble_eq_true rfl) rfl ?_
  refine ur_ldA rfl rfl ?_
  refine ur_ldI rfl rfl ?_
  obtain ⟨fs1, hc2⟩ := hO0.mod
  obtain ⟨f3, p4, t5⟩ := mf_4 hO0 hc2
  have t6 := fI_of hc2 p4
  refine ur_inl rfl (rcv_of hc2) (Nat.le_of_ble_eq_true rfl) (Nat.le_of_ble_eq_true rfl) (sg_isComet hO0 _ (fun w7 hr8 => ?_))
  obtain ⟨b9, rfl, t10⟩ := hr8
  show uRun _ (uCall Mt _) _ 5 (_, [(.inl (bi b9))], _, _, _)
  refine ur_eqB rfl (fun c11 => ?_) (fun c11 => ?_)
  · refine ur_push rfl ?_
    exact ur_ret rfl rfl (hQ _ _ ⟨_, rfl⟩ hO0 un.rf)
  · have t12 := t10 c11
    refine ur_ldI rfl rfl ?_
    refine ur_callv rfl rfl (Nat.le_of_ble_eq_true rfl) (Nat.le_of_ble_eq_true rfl) rfl (sq_isRet _ _) ?_
    refine ur_eqB rfl (fun c15 => ?_) (fun c15 => ?_)
    · have t16 := wi_noL c15 l_m60 l_60
      refine ur_push rfl ?_
      exact ur_ret rfl rfl (hQ _ _ ⟨_, rfl⟩ hO0 un.rf)
    · have t17 := wi_toL c15 l_m60 l_60
      refine ur_ldI rfl rfl ?_
      refine ur_push rfl ?_
      refine ur_push rfl ?_
      refine ur_callv rfl rfl (Nat.le_of_ble_eq_true rfl) (Nat.le_of_ble_eq_true rfl) rfl (sp_in _ _ _ _ _) ?_
      refine ur_neB rfl (fun c20 => ?_) (fun c20 => ?_)
      · have t21 := wi_toL c20 l_0 l_1
        refine ur_ldA rfl rfl ?_
        refine ur_ldI rfl rfl ?_
        refine ur_ldI rfl rfl ?_
        refine ur_inl rfl (rcv_of hc2) (Nat.le_of_ble_eq_true rfl) (Nat.le_of_ble_eq_true rfl) (sf_X12_passOf hO0 hX0 _ (by show 0 ≤ a1.toInt ∧ a1.toInt ≤ 11; omega) _ (by show -60 ≤ a2.toInt ∧ a2.toInt ≤ 60; omega) (fun w22 h24 hr23 hO24 hv24 => ?_))
        have hu24 := hv24
        obtain ⟨x25, rfl, t26⟩ := hr23
        show uRun _ (uCall Mt _) _ 32 (_, [(.inl x25)], _, _, _)
        refine ur_svIk [some (.inr (.inr (some 69))), some (.inl a1), some (.inl a2), some (.inl a3), some (.inl x25)] rfl rfl ?_
        refine ur_ldI rfl rfl ?_
        refine ur_if1 rfl (fun c27 => ?_) (fun c27 => ?_)
        · have t28 := le_to c27
          refine ur_ldI rfl rfl ?_
          refine ur_if1 rfl (fun c29 => ?_) (fun c29 => ?_)
          · have t30 := ne_to c29
            refine ur_ldA rfl rfl ?_
            refine ur_ldI rfl rfl ?_
            obtain ⟨fs31, hc32⟩ := hO24.mod
            refine ur_inl rfl (rcv_of hc32) (Nat.le_of_ble_eq_true rfl) (Nat.le_of_ble_eq_true rfl) (sf_X12_wideOf hO24 _ (by show -60 ≤ a2.toInt ∧ a2.toInt ≤ 60; omega) (fun w33 hr34 => ?_))
            obtain ⟨x35, rfl, t36⟩ := hr34
            show uRun _ (uCall Mt _) _ 58 (_, [(.inl x35)], _, _, _)
            exact ur_ret rfl rfl (hQ _ _ ⟨_, rfl⟩ hO24 hu24)
          · have t37 := ne_no c29
            refine ur_ldI rfl rfl ?_
            refine ur_go rfl ?_
            exact ur_ret rfl rfl (hQ _ _ ⟨_, rfl⟩ hO24 hu24)
        · have t38 := le_no c27
          refine ur_push rfl ?_
          refine ur_go rfl ?_
          exact ur_ret rfl rfl (hQ _ _ ⟨_, rfl⟩ hO24 hu24)
      · have t39 := wi_noL c20 l_0 l_1
        refine ur_push rfl ?_
        exact ur_ret rfl rfl (hQ _ _ ⟨_, rfl⟩ hO0 un.rf)

set_option maxRecDepth 20000 in
set_option maxHeartbeats 4000000 in
theorem sf_X12_standsOn {d kc ks : Nat} {h0 : aH} {Q : Option aV → aH → Prop} (hO0 : OK h0) (hX0 : SX h0) (a1 : Int32) (b1 : 0 ≤ a1.toInt ∧ a1.toInt ≤ 11) (a2 : Int32) (a3 : Int32) (pre0 : a1.toInt < fI h0 4) (hQ : ∀ r h', (∃ q, r = some (.inl (bi q))) → OK h' → un [] h0 h' → Q r h') : uCall Mt (d + 3) 204 [(.inr (.inr (some 69))), (.inl a1), (.inl a2), (.inl a3)] h0 kc ks Q := by
  have l_0 : ((0) : Int32).toInt = 0 := by decide
  have l_1 : ((1) : Int32).toInt = 1 := by decide
  have l_120 : ((120) : Int32).toInt = 120 := by decide
  have l_360 : ((360) : Int32).toInt = 360 := by decide
  refine uc_ink [some (.inr (.inr (some 69))), some (.inl a1), some (.inl a2), some (.inl a3)] mt_204 (Nat.le_of_ble_eq_true rfl) rfl ?_
  obtain ⟨fs1, hc2⟩ := hO0.mod
  obtain ⟨f3, p4, t5⟩ := mf_4 hO0 hc2
  have t6 := fI_of hc2 p4
  refine ur_ldA rfl rfl ?_
  refine ur_ldI rfl rfl ?_
  refine ur_ldI rfl rfl ?_
  refine ur_binV rfl (fun x7 e8 => ?_)
  have z9 := any_r a3
  have z10 := any_r a2
  obtain ⟨f11, p12⟩ := mf_17 hO0 hc2
  refine ur_putM (W := []) rfl hO0 hc2 (by decide) rfl (ms_17 (hO0.msh hc2)) (Or.inl rfl) (fun h14 hO14 hu14 d13 hc15 => ?_)
  refine ur_ldA rfl rfl ?_
  refine ur_get rfl hc15 (gs_eq p12) ?_
  have t16 := fI_keep (k := 4) hO0 hO14 hu14 rfl (by decide)
  refine ur_inl rfl rfl (Nat.le_of_ble_eq_true rfl) (Nat.le_of_ble_eq_true rfl) (sf_X12_sizeOf _ (fun w17 hr18 => ?_))
  obtain ⟨x19, rfl, t20⟩ := hr18
  show uRun _ (uCall Mt _) _ 14 (_, [(.inl x19)], _, _, _)
  refine ur_push rfl ?_
  refine ur_if2 rfl (fun c21 => ?_) (fun c21 => ?_)
  · have t22 := le_to c21
    refine ur_ldA rfl rfl ?_
    refine ur_ldA rfl rfl ?_
    refine ur_get rfl hc15 (mf_7 hO14 hc15) ?_
    refine ur_ldI rfl rfl ?_
    obtain ⟨xs24, hc23, hn25, he26⟩ := hO14.int (hO14.fix 74 (by decide) rfl)
    refine ur_aldV rfl hc23 hn25 (by omega) (fun x27 hx28 => ?_)
    refine ur_ldA rfl rfl ?_
    refine ur_get rfl hc15 (mf_9 hO14 hc15) ?_
    refine ur_ldI rfl rfl ?_
    obtain ⟨xs30, hc29, hn31, he32⟩ := hO14.int (hO14.fix 76 (by decide) rfl)
    refine ur_aldV rfl hc29 hn31 (by omega) (fun x33 hx34 => ?_)
    refine ur_ldA rfl rfl ?_
    refine ur_get rfl hc15 (gs_eq p12) ?_
    refine ur_ldA rfl rfl ?_
    refine ur_get rfl hc15 (mf_8 hO14 hc15) ?_
    refine ur_ldI rfl rfl ?_
    obtain ⟨xs36, hc35, hn37, he38⟩ := hO14.int (hO14.fix 75 (by decide) rfl)
    refine ur_aldV rfl hc35 hn37 (by omega) (fun x39 hx40 => ?_)
    have t41 : 0 ≤ x39.toInt ∧ x39.toInt ≤ 99 := he38 _ _ hx40
    have t42 := SX.rx (j := a1) (hX0.un hO0 hO14 hu14 (by decide)) hc35 hx40 (by omega)
    refine ur_inl rfl rfl (Nat.le_of_ble_eq_true rfl) (Nat.le_of_ble_eq_true rfl) (sf_X12_turned _ _ _ (by show 1 ≤ x39.toInt ∧ x39.toInt ≤ 99; omega) (fun w43 hr44 => ?_))
    obtain ⟨x45, rfl⟩ := hr44
    show uRun _ (uCall Mt _) _ 47 (_, [(.inl x45), (.inl x27), (.inr (.inr (some 69)))], _, _, _)
    refine ur_binV rfl (fun x46 e47 => ?_)
    have z48 := any_r x27
    have z49 := any_r x45
    refine ur_push rfl ?_
    refine ur_binV rfl (fun x50 e51 => ?_)
    have z52 := any_r x46
    refine ur_push rfl ?_
    refine ur_divV rfl (by decide) (fun x53 e54 => ?_)
    have z55 := any_r x50
    have t56 : 0 ≤ x50.toInt → x53.toInt = x50.toInt % 360 := fun q => ti_rem e54 l_360 (by decide) q
    obtain ⟨f57, p58⟩ := mf_15 hO14 hc15
    refine ur_putM (W := []) rfl hO14 hc15 (by decide) rfl (ms_15 (hO14.msh hc15)) (Or.inl rfl) (fun h60 hO60 hu60 d59 hc61 => ?_)
    refine ur_ldA rfl rfl ?_
    refine ur_ldA rfl rfl ?_
    refine ur_get rfl hc61 (mf_8 hO60 hc61) ?_
    refine ur_ldI rfl rfl ?_
    refine ur_aldV rfl ((d59 _ (by decide)).trans hc35) hn37 (by omega) (fun x62 hx63 => ?_)
    obtain rfl : x39 = x62 := Option.some.inj (hx40.symm.trans hx63)
    refine ur_ldA rfl rfl ?_
    refine ur_get rfl hc61 (gs_ne (gs_eq p12) (by decide)) ?_
    have t64 := fI_keep (k := 4) hO0 hO60 (hu14.tr hu60) rfl (by decide)
    refine ur_inl rfl rfl (Nat.le_of_ble_eq_true rfl) (Nat.le_of_ble_eq_true rfl) (sf_X12_sizeOf _ (fun w65 hr66 => ?_))
    obtain ⟨x67, rfl, t68⟩ := hr66
    show uRun _ (uCall Mt _) _ 73 (_, [(.inl x67), (.inl x39), (.inr (.inr (some 69)))], _, _, _)
    refine ur_binV rfl (fun x69 e70 => ?_)
    have z71 := any_r x39
    have z72 := any_r x67
    obtain ⟨f73, p74⟩ := mf_16 hO60 hc61
    refine ur_putM (W := []) rfl hO60 hc61 (by decide) rfl (ms_16 (hO60.msh hc61)) (Or.inl rfl) (fun h76 hO76 hu76 d75 hc77 => ?_)
    refine ur_push rfl ?_
    have t78 := fI_of hc77 (gs_ne (gs_ne (gs_ne p4 (by decide)) (by decide)) (by decide))
    have t79 := fI_keep (k := 4) hO0 hO76 (hu14.tr (hu60.tr hu76)) rfl (by decide)
    exact ur_ret rfl rfl (hQ _ _ ⟨true, rfl⟩ hO76 (hu14.tr (hu60.tr hu76)))
  · have t80 := le_no c21
    refine ur_push rfl ?_
    have t81 := fI_of hc15 (gs_ne p4 (by decide))
    exact ur_ret rfl rfl (hQ _ _ ⟨false, rfl⟩ hO14 hu14)

set_option maxRecDepth 20000 in
set_option maxHeartbeats 4000000 in
theorem sf_X12_rootOf {d kc ks : Nat} {h0 : aH} {Q : Option aV → aH → Prop} (hO0 : OK h0) (hX0 : SX h0) (a1 : Int32) (b1 : 0 ≤ a1.toInt ∧ a1.toInt ≤ 149) (pre0 : a1.toInt < fI h0 38) (hQ : ∀ r, (∃ x : Int32, r = some (.inl x) ∧ (0 ≤ x.toInt ∧ x.toInt ≤ 149 ∧ x.toInt < fI h0 38)) → Q r h0) : uCall Mt (d + 1) 241 [(.inr (.inr (some 69))), (.inl a1)] h0 kc ks Q := by
  have l_3 : ((3) : Int32).toInt = 3 := by decide
  refine uc_ink [some (.inr (.inr (some 69))), some (.inl a1), none] mt_241 (Nat.le_of_ble_eq_true rfl) rfl ?_
  obtain ⟨fs1, hc2⟩ := hO0.mod
  obtain ⟨f3, p4, t5⟩ := mf_38 hO0 hc2
  have t6 := fI_of hc2 p4
  refine ur_ldI rfl rfl ?_
  refine ur_svIk [some (.inr (.inr (some 69))), some (.inl a1), some (.inl a1)] rfl rfl ?_
  have L8 : ∀ (m9 : Nat) (x7 : Int32) , ((0 ≤ x7.toInt ∧ x7.toInt ≤ 149) ∧ x7.toInt < fI h0 38) → (x7.toInt.toNat) < m9 → uRun oX12_rootOf (uCall Mt (d + 0)) Q 2 ([some (.inr (.inr (some 69))), some (.inl a1), some (.inl x7)], [], h0, kc, ks) := by
    intro m9
    induction m9 with
    | zero => intro x7 iv11 mm12; omega
    | succ m9 ih10 =>
      intro x7 iv11 mm12
      refine ur_ldA rfl rfl ?_
      refine ur_get rfl hc2 (mf_39 hO0 hc2) ?_
      refine ur_ldI rfl rfl ?_
      obtain ⟨xs14, hc13, hn15, he16⟩ := hO0.int (hO0.fix 96 (by decide) rfl)
      refine ur_aldV rfl hc13 hn15 (by omega) (fun x17 hx18 => ?_)
      have t19 : 0 ≤ x17.toInt ∧ x17.toInt ≤ 7 := he16 _ _ hx18
      refine ur_push rfl ?_
      refine ur_if2 rfl (fun c20 => ?_) (fun c20 => ?_)
      · have t21 := ne_to c20
        refine ur_ldI rfl rfl ?_
        exact ur_ret rfl rfl (hQ _ ⟨_, rfl, by omega⟩ )
      · have t22 := ne_no c20
        refine ur_ldA rfl rfl ?_
        refine ur_get rfl hc2 (mf_46 hO0 hc2) ?_
        refine ur_ldI rfl rfl ?_
        obtain ⟨xs24, hc23, hn25, he26⟩ := hO0.int (hO0.fix 103 (by decide) rfl)
        refine ur_aldV rfl hc23 hn25 (by omega) (fun x27 hx28 => ?_)
        have t29 : -1 ≤ x27.toInt ∧ x27.toInt ≤ 149 := he26 _ _ hx28
        have t30 := SX.wx (j := x7) hX0 hc13 hx18 hc23 hx28 (by omega) (by omega)
        refine ur_svIk [some (.inr (.inr (some 69))), some (.inl a1), some (.inl x27)] rfl rfl ?_
        refine ur_go rfl ?_
        have z31 := any_r x27
        exact ih10 x27 (by omega) (by omega)
  have z32 := any_r a1
  exact L8 _ a1 (by omega) (Nat.lt_succ_self _)

set_option maxRecDepth 20000 in
set_option maxHeartbeats 4000000 in
theorem sf_X12_spansOf {d kc ks : Nat} {h0 : aH} {Q : Option aV → aH → Prop} (hO0 : OK h0) (hX0 : SX h0) (a1 : Int32) (b1 : 0 ≤ a1.toInt ∧ a1.toInt ≤ 149) (pre0 : a1.toInt < fI h0 38) (hQ : ∀ r, (∃ x, r = some (.inl x)) → Q r h0) : uCall Mt (d + 2) 242 [(.inr (.inr (some 69))), (.inl a1)] h0 kc ks Q := by
  have l_0 : ((0) : Int32).toInt = 0 := by decide
  have l_1 : ((1) : Int32).toInt = 1 := by decide
  refine uc_ink [some (.inr (.inr (some 69))), some (.inl a1), none] mt_242 (Nat.le_of_ble_eq_true rfl) rfl ?_
  obtain ⟨fs1, hc2⟩ := hO0.mod
  obtain ⟨f3, p4, t5⟩ := mf_38 hO0 hc2
  have t6 := fI_of hc2 p4
  refine ur_ldA rfl rfl ?_
  refine ur_get rfl hc2 (mf_44 hO0 hc2) ?_
  refine ur_ldA rfl rfl ?_
  refine ur_ldI rfl rfl ?_
  refine ur_inl rfl (rcv_of hc2) (Nat.le_of_ble_eq_true rfl) (Nat.le_of_ble_eq_true rfl) (sf_X12_rootOf hO0 hX0 _ (by show 0 ≤ a1.toInt ∧ a1.toInt ≤ 149; omega) (by omega) (fun w7 hr8 => ?_))
  obtain ⟨x9, rfl, t10⟩ := hr8
  show uRun _ (uCall Mt _) _ 9 (_, [(.inl x9), (.inr (.inr (some 101)))], _, _, _)
  obtain ⟨xs12, hc11, hn13, he14⟩ := hO0.int (hO0.fix 101 (by decide) rfl)
  refine ur_aldV rfl hc11 hn13 (by omega) (fun x15 hx16 => ?_)
  have t17 : -1 ≤ x15.toInt ∧ x15.toInt ≤ 19 := he14 _ _ hx16
  refine ur_svIk [some (.inr (.inr (some 69))), some (.inl a1), some (.inl x15)] rfl rfl ?_
  refine ur_ldI rfl rfl ?_
  refine ur_if1 rfl (fun c18 => ?_) (fun c18 => ?_)
  · have t19 := le_to c18
    refine ur_ldA rfl rfl ?_
    refine ur_get rfl hc2 (mf_32 hO0 hc2) ?_
    refine ur_ldI rfl rfl ?_
    obtain ⟨xs21, hc20, hn22, he23⟩ := hO0.int (hO0.fix 91 (by decide) rfl)
    refine ur_aldV rfl hc20 hn22 (by omega) (fun x24 hx25 => ?_)
    exact ur_ret rfl rfl (hQ _ ⟨_, rfl⟩ )
  · have t26 := le_no c18
    refine ur_push rfl ?_
    refine ur_go rfl ?_
    exact ur_ret rfl rfl (hQ _ ⟨_, rfl⟩ )

set_option maxRecDepth 20000 in
set_option maxHeartbeats 4000000 in
theorem sf_X12_ofWord {d kc ks : Nat} {h0 : aH} {Q : Option aV → aH → Prop} (hO0 : OK h0) (hX0 : SX h0) (a1 : Int32) (a2 : Int32) (hQ : ∀ r, (∃ x, r = some (.inl x)) → Q r h0) : uCall Mt (d + 3) 243 [(.inr (.inr (some 69))), (.inl a1), (.inl a2)] h0 kc ks Q := by
  have l_m1 : ((-1) : Int32).toInt = -1 := by decide
  refine uc_ink [some (.inr (.inr (some 69))), some (.inl a1), some (.inl a2)] mt_243 (Nat.le_of_ble_eq_true rfl) rfl ?_
  obtain ⟨fs1, hc2⟩ := hO0.mod
  obtain ⟨f3, p4, t5⟩ := mf_38 hO0 hc2
  have t6 := fI_of hc2 p4
  refine ur_ldA rfl rfl ?_
  refine ur_ldI rfl rfl ?_
  refine ur_inl rfl (rcv_of hc2) (Nat.le_of_ble_eq_true rfl) (Nat.le_of_ble_eq_true rfl) (sg_isWord hO0 _ (fun w7 hr8 => ?_))
  obtain ⟨b9, rfl, t10⟩ := hr8
  show uRun _ (uCall Mt _) _ 5 (_, [(.inl (bi b9))], _, _, _)
  refine ur_neB rfl (fun c11 => ?_) (fun c11 => ?_)
  · have t12 := t10 c11
    refine ur_ldI rfl rfl ?_
    rcases (show (a2.toInt < 0 ∨ 9 < a2.toInt) ∨ a2.toInt = 0 ∨ a2.toInt = 1 ∨ a2.toInt = 2 ∨ a2.toInt = 3 ∨ a2.toInt = 4 ∨ a2.toInt = 5 ∨ a2.toInt = 6 ∨ a2.toInt = 7 ∨ a2.toInt = 8 ∨ a2.toInt = 9 by omega) with t13 | t13 | t13 | t13 | t13 | t13 | t13 | t13 | t13 | t13 | t13
    · refine ur_tabO rfl (by show a2.toInt < 0 ∨ 0 + 10 ≤ a2.toInt; omega) ?_
      refine ur_push rfl ?_
      exact ur_ret rfl rfl (hQ _ ⟨_, rfl⟩ )
    · refine ur_tabI rfl (by omega) (by rw [t13]; rfl) ?_
      refine ur_ldA rfl rfl ?_
      refine ur_get rfl hc2 (mf_39 hO0 hc2) ?_
      refine ur_ldI rfl rfl ?_
      obtain ⟨xs15, hc14, hn16, he17⟩ := hO0.int (hO0.fix 96 (by decide) rfl)
      refine ur_aldV rfl hc14 hn16 (by omega) (fun x18 hx19 => ?_)
      have t20 : 0 ≤ x18.toInt ∧ x18.toInt ≤ 7 := he17 _ _ hx19
      exact ur_ret rfl rfl (hQ _ ⟨_, rfl⟩ )
    · refine ur_tabI rfl (by omega) (by rw [t13]; rfl) ?_
      refine ur_ldA rfl rfl ?_
      refine ur_get rfl hc2 (mf_40 hO0 hc2) ?_
      refine ur_ldI rfl rfl ?_
      obtain ⟨xs22, hc21, hn23, he24⟩ := hO0.int (hO0.fix 97 (by decide) rfl)
      refine ur_aldV rfl hc21 hn23 (by omega) (fun x25 hx26 => ?_)
      have t27 : 0 ≤ x25.toInt ∧ x25.toInt ≤ 8 := he24 _ _ hx26
      exact ur_ret rfl rfl (hQ _ ⟨_, rfl⟩ )
    · refine ur_tabI rfl (by omega) (by rw [t13]; rfl) ?_
      refine ur_ldA rfl rfl ?_
      refine ur_get rfl hc2 (mf_41 hO0 hc2) ?_
      refine ur_ldI rfl rfl ?_
      obtain ⟨xs29, hc28, hn30, he31⟩ := hO0.int (hO0.fix 98 (by decide) rfl)
      refine ur_aldV rfl hc28 hn30 (by omega) (fun x32 hx33 => ?_)
      exact ur_ret rfl rfl (hQ _ ⟨_, rfl⟩ )
    · refine ur_tabI rfl (by omega) (by rw [t13]; rfl) ?_
      refine ur_ldA rfl rfl ?_
      refine ur_get rfl hc2 (mf_42 hO0 hc2) ?_
      refine ur_ldI rfl rfl ?_
      obtain ⟨xs35, hc34, hn36, he37⟩ := hO0.int (hO0.fix 99 (by decide) rfl)
      refine ur_aldV rfl hc34 hn36 (by omega) (fun x38 hx39 => ?_)
      exact ur_ret rfl rfl (hQ _ ⟨_, rfl⟩ )
    · refine ur_tabI rfl (by omega) (by rw [t13]; rfl) ?_
      refine ur_ldA rfl rfl ?_
      refine ur_get rfl hc2 (mf_43 hO0 hc2) ?_
      refine ur_ldI rfl rfl ?_
      obtain ⟨xs41, hc40, hn42, he43⟩ := hO0.int (hO0.fix 100 (by decide) rfl)
      refine ur_aldV rfl hc40 hn42 (by omega) (fun x44 hx45 => ?_)
      exact ur_ret rfl rfl (hQ _ ⟨_, rfl⟩ )
    · refine ur_tabI rfl (by omega) (by rw [t13]; rfl) ?_
      refine ur_ldA rfl rfl ?_
      refine ur_get rfl hc2 (mf_44 hO0 hc2) ?_
      refine ur_ldI rfl rfl ?_
      obtain ⟨xs47, hc46, hn48, he49⟩ := hO0.int (hO0.fix 101 (by decide) rfl)
      refine ur_aldV rfl hc46 hn48 (by omega) (fun x50 hx51 => ?_)
      have t52 : -1 ≤ x50.toInt ∧ x50.toInt ≤ 19 := he49 _ _ hx51
      exact ur_ret rfl rfl (hQ _ ⟨_, rfl⟩ )
    · refine ur_tabI rfl (by omega) (by rw [t13]; rfl) ?_
      refine ur_ldA rfl rfl ?_
      refine ur_get rfl hc2 (mf_45 hO0 hc2) ?_
      refine ur_ldI rfl rfl ?_
      obtain ⟨xs54, hc53, hn55, he56⟩ := hO0.int (hO0.fix 102 (by decide) rfl)
      refine ur_aldV rfl hc53 hn55 (by omega) (fun x57 hx58 => ?_)
      exact ur_ret rfl rfl (hQ _ ⟨_, rfl⟩ )
    · refine ur_tabI rfl (by omega) (by rw [t13]; rfl) ?_
      refine ur_ldA rfl rfl ?_
      refine ur_get rfl hc2 (mf_46 hO0 hc2) ?_
      refine ur_ldI rfl rfl ?_
      obtain ⟨xs60, hc59, hn61, he62⟩ := hO0.int (hO0.fix 103 (by decide) rfl)
      refine ur_aldV rfl hc59 hn61 (by omega) (fun x63 hx64 => ?_)
      have t65 : -1 ≤ x63.toInt ∧ x63.toInt ≤ 149 := he62 _ _ hx64
      exact ur_ret rfl rfl (hQ _ ⟨_, rfl⟩ )
    · refine ur_tabI rfl (by omega) (by rw [t13]; rfl) ?_
      refine ur_ldA rfl rfl ?_
      refine ur_ldI rfl rfl ?_
      refine ur_inl rfl (rcv_of hc2) (Nat.le_of_ble_eq_true rfl) (Nat.le_of_ble_eq_true rfl) (sf_X12_rootOf hO0 hX0 _ (by show 0 ≤ a1.toInt ∧ a1.toInt ≤ 149; omega) (by omega) (fun w66 hr67 => ?_))
      obtain ⟨x68, rfl, t69⟩ := hr67
      show uRun _ (uCall Mt _) _ 125 (_, [(.inl x68)], _, _, _)
      exact ur_ret rfl rfl (hQ _ ⟨_, rfl⟩ )
    · refine ur_tabI rfl (by omega) (by rw [t13]; rfl) ?_
      refine ur_ldA rfl rfl ?_
      refine ur_ldI rfl rfl ?_
      refine ur_inl rfl (rcv_of hc2) (Nat.le_of_ble_eq_true rfl) (Nat.le_of_ble_eq_true rfl) (sf_X12_spansOf hO0 hX0 _ (by show 0 ≤ a1.toInt ∧ a1.toInt ≤ 149; omega) (by omega) (fun w70 hr71 => ?_))
      obtain ⟨x72, rfl⟩ := hr71
      show uRun _ (uCall Mt _) _ 131 (_, [(.inl x72)], _, _, _)
      exact ur_ret rfl rfl (hQ _ ⟨_, rfl⟩ )
  · refine ur_push rfl ?_
    exact ur_ret rfl rfl (hQ _ ⟨_, rfl⟩ )

set_option maxRecDepth 20000 in
set_option maxHeartbeats 4000000 in
theorem sf_X12_passBy {d kc ks : Nat} {h0 : aH} {Q : Option aV → aH → Prop} (hO0 : OK h0) (hX0 : SX h0) (a1 : Int32) (b1 : 0 ≤ a1.toInt ∧ a1.toInt ≤ 11) (a2 : Int32) (a3 : Int32) (hQ : ∀ r, (∃ x, r = some (.inl x)) → Q r h0) : uCall Mt (d + 3) 274 [(.inr (.inr (some 69))), (.inl a1), (.inl a2), (.inl a3)] h0 kc ks Q := by
  have l_m1 : ((-1) : Int32).toInt = -1 := by decide
  have l_0 : ((0) : Int32).toInt = 0 := by decide
  have l_1 : ((1) : Int32).toInt = 1 := by decide
  have l_999999 : ((999999) : Int32).toInt = 999999 := by decide
  refine uc_ink [some (.inr (.inr (some 69))), some (.inl a1), some (.inl a2), some (.inl a3), none, none] mt_274 (Nat.le_of_ble_eq_true rfl) rfl ?_
  refine ur_ldA rfl rfl ?_
  obtain ⟨fs1, hc2⟩ := hO0.mod
  refine ur_get rfl hc2 (mf_5 hO0 hc2) ?_
  refine ur_ldI rfl rfl ?_
  obtain ⟨xs4, hc3, hn5, he6⟩ := hO0.int (hO0.fix 72 (by decide) rfl)
  refine ur_aldV rfl hc3 hn5 (by omega) (fun x7 hx8 => ?_)
  have t9 : 0 ≤ x7.toInt ∧ x7.toInt ≤ 999999 := he6 _ _ hx8
  refine ur_svIk [some (.inr (.inr (some 69))), some (.inl a1), some (.inl a2), some (.inl a3), some (.inl x7), none] rfl rfl ?_
  refine ur_push rfl ?_
  refine ur_svIk [some (.inr (.inr (some 69))), some (.inl a1), some (.inl a2), some (.inl a3), some (.inl x7), some (.inl 0)] rfl rfl ?_
  have L12 : ∀ (m13 : Nat) (x10 : Int32) (x11 : Int32) , ((0 ≤ x11.toInt ∧ x11.toInt ≤ 2147483647)) → ((2147483648 - x11.toInt).toNat) < m13 → uRun oX12_passBy (uCall Mt (d + 2)) Q 11 ([some (.inr (.inr (some 69))), some (.inl a1), some (.inl a2), some (.inl a3), some (.inl x10), some (.inl x11)], [], h0, kc, ks) := by
    intro m13
    induction m13 with
    | zero => intro x10 x11 iv15 mm16; omega
    | succ m13 ih14 =>
      intro x10 x11 iv15 mm16
      refine ur_ldI rfl rfl ?_
      refine ur_ldI rfl rfl ?_
      have z17 := any_r x11
      have z18 := any_r a2
      refine ur_if2 rfl (fun c19 => ?_) (fun c19 => ?_)
      · have t20 := le_to c19
        refine ur_ldI rfl rfl ?_
        exact ur_ret rfl rfl (hQ _ ⟨_, rfl⟩ )
      · have t21 := le_no c19
        refine ur_ldA rfl rfl ?_
        refine ur_ldI rfl rfl ?_
        refine ur_ldA rfl rfl ?_
        refine ur_get rfl hc2 (mf_6 hO0 hc2) ?_
        refine ur_ldI rfl rfl ?_
        obtain ⟨xs23, hc22, hn24, he25⟩ := hO0.int (hO0.fix 73 (by decide) rfl)
        refine ur_aldV rfl hc22 hn24 (by omega) (fun x26 hx27 => ?_)
        refine ur_ldI rfl rfl ?_
        obtain ⟨f28, p29, t30⟩ := mf_1 hO0 hc2
        have t31 := fI_of hc2 p29
        refine ur_inl rfl (rcv_of hc2) (Nat.le_of_ble_eq_true rfl) (Nat.le_of_ble_eq_true rfl) (sf_X12_passBehind hO0 hX0 _ _ _ (fun w32 hr33 => ?_))
        obtain ⟨x34, rfl⟩ := hr33
        show uRun _ (uCall Mt _) _ 30 (_, [(.inl x34)], _, _, _)
        refine ur_svIk [some (.inr (.inr (some 69))), some (.inl a1), some (.inl a2), some (.inl a3), some (.inl x34), some (.inl x11)] rfl rfl ?_
        refine ur_ldI rfl rfl ?_
        refine ur_callv rfl rfl (Nat.le_of_ble_eq_true rfl) (Nat.le_of_ble_eq_true rfl) rfl (sq_isDay _ _) ?_
        refine ur_neB rfl (fun c37 => ?_) (fun c37 => ?_)
        · have t38 := wi_toL c37 l_0 l_999999
          refine ur_incV (fun z => [some (.inr (.inr (some 69))), some (.inl a1), some (.inl a2), some (.inl a3), some (.inl x34), some (.inl z)]) rfl rfl (fun _ => rfl) (fun x39 e40 => ?_)
          have t41 := ti_add e40 (by omega) (by omega)
          refine ur_go rfl ?_
          have z42 := any_r x39
          exact ih14 x34 x39 (by omega) (by omega)
        · have t43 := wi_noL c37 l_0 l_999999
          refine ur_push rfl ?_
          exact ur_ret rfl rfl (hQ _ ⟨_, rfl⟩ )
  exact L12 _ x7 0 (by omega) (Nat.lt_succ_self _)

set_option maxRecDepth 20000 in
set_option maxHeartbeats 4000000 in
theorem sf_X12_foretold {d kc ks : Nat} {h0 : aH} {Q : Option aV → aH → Prop} (hO0 : OK h0) (hX0 : SX h0) (a1 : Int32) (a2 : Int32) (a3 : Int32) (a4 : Int32) (hQ : ∀ r, (∃ x, r = some (.inl x)) → Q r h0) : uCall Mt (d + 4) 275 [(.inr (.inr (some 69))), (.inl a1), (.inl a2), (.inl a3), (.inl a4)] h0 kc ks Q := by
  have l_m2000000000 : ((-2000000000) : Int32).toInt = -2000000000 := by decide
  have l_0 : ((0) : Int32).toInt = 0 := by decide
  have l_1 : ((1) : Int32).toInt = 1 := by decide
  have l_60 : ((60) : Int32).toInt = 60 := by decide
  refine uc_ink [some (.inr (.inr (some 69))), some (.inl a1), some (.inl a2), some (.inl a3), some (.inl a4), none, none] mt_275 (Nat.le_of_ble_eq_true rfl) rfl ?_
  refine ur_ldA rfl rfl ?_
  refine ur_ldI rfl rfl ?_
  obtain ⟨fs1, hc2⟩ := hO0.mod
  obtain ⟨f3, p4, t5⟩ := mf_4 hO0 hc2
  have t6 := fI_of hc2 p4
  refine ur_inl rfl (rcv_of hc2) (Nat.le_of_ble_eq_true rfl) (Nat.le_of_ble_eq_true rfl) (sg_isComet hO0 _ (fun w7 hr8 => ?_))
  obtain ⟨b9, rfl, t10⟩ := hr8
  show uRun _ (uCall Mt _) _ 5 (_, [(.inl (bi b9))], _, _, _)
  refine ur_eqB rfl (fun c11 => ?_) (fun c11 => ?_)
  · refine ur_push rfl ?_
    exact ur_ret rfl rfl (hQ _ ⟨_, rfl⟩ )
  · have t12 := t10 c11
    refine ur_ldI rfl rfl ?_
    refine ur_push rfl ?_
    refine ur_push rfl ?_
    refine ur_callv rfl rfl (Nat.le_of_ble_eq_true rfl) (Nat.le_of_ble_eq_true rfl) rfl (sp_in _ _ _ _ _) ?_
    refine ur_eqB rfl (fun c15 => ?_) (fun c15 => ?_)
    · have t16 := wi_noL c15 l_0 l_60
      refine ur_push rfl ?_
      exact ur_ret rfl rfl (hQ _ ⟨_, rfl⟩ )
    · have t17 := wi_toL c15 l_0 l_60
      refine ur_ldI rfl rfl ?_
      refine ur_if1 rfl (fun c18 => ?_) (fun c18 => ?_)
      · have t19 := lt_to c18
        refine ur_push rfl ?_
        exact ur_ret rfl rfl (hQ _ ⟨_, rfl⟩ )
      · have t20 := lt_no c18
        refine ur_ldI rfl rfl ?_
        refine ur_ldA rfl rfl ?_
        obtain ⟨f21, p22, t23⟩ := mf_1 hO0 hc2
        refine ur_get rfl hc2 p22 ?_
        refine ur_binV rfl (fun x24 e25 => ?_)
        have z26 := any_r a3
        have z27 := any_r f21
        refine ur_if1 rfl (fun c28 => ?_) (fun c28 => ?_)
        · have t29 := ne_to c28
          refine ur_push rfl ?_
          exact ur_ret rfl rfl (hQ _ ⟨_, rfl⟩ )
        · have t30 := ne_no c28
          refine ur_ldI rfl rfl ?_
          refine ur_push rfl ?_
          refine ur_push rfl ?_
          refine ur_callv rfl rfl (Nat.le_of_ble_eq_true rfl) (Nat.le_of_ble_eq_true rfl) rfl (sp_in _ _ _ _ _) ?_
          refine ur_neB rfl (fun c33 => ?_) (fun c33 => ?_)
          · have t34 := wi_toL c33 l_0 l_1
            refine ur_ldA rfl rfl ?_
            refine ur_ldI rfl rfl ?_
            refine ur_ldI rfl rfl ?_
            refine ur_ldI rfl rfl ?_
            refine ur_inl rfl (rcv_of hc2) (Nat.le_of_ble_eq_true rfl) (Nat.le_of_ble_eq_true rfl) (sf_X12_passBy hO0 hX0 _ (by show 0 ≤ a1.toInt ∧ a1.toInt ≤ 11; omega) _ _ (fun w35 hr36 => ?_))
            obtain ⟨x37, rfl⟩ := hr36
            show uRun _ (uCall Mt _) _ 51 (_, [(.inl x37)], _, _, _)
            refine ur_svIk [some (.inr (.inr (some 69))), some (.inl a1), some (.inl a2), some (.inl a3), some (.inl a4), some (.inl x37), none] rfl rfl ?_
            refine ur_ldA rfl rfl ?_
            refine ur_ldI rfl rfl ?_
            refine ur_ldI rfl rfl ?_
            refine ur_ldA rfl rfl ?_
            refine ur_inl rfl (rcv_of hc2) (Nat.le_of_ble_eq_true rfl) (Nat.le_of_ble_eq_true rfl) (sf_X12_allGreats hO0  (fun w38 hr39 => ?_))
            obtain ⟨x40, rfl, t41⟩ := hr39
            show uRun _ (uCall Mt _) _ 60 (_, [(.inl x40), (.inl a2), (.inl a1), (.inr (.inr (some 69)))], _, _, _)
            refine ur_inl rfl (rcv_of hc2) (Nat.le_of_ble_eq_true rfl) (Nat.le_of_ble_eq_true rfl) (sf_X12_passBy hO0 hX0 _ (by show 0 ≤ a1.toInt ∧ a1.toInt ≤ 11; omega) _ _ (fun w42 hr43 => ?_))
            obtain ⟨x44, rfl⟩ := hr43
            show uRun _ (uCall Mt _) _ 63 (_, [(.inl x44)], _, _, _)
            refine ur_svIk [some (.inr (.inr (some 69))), some (.inl a1), some (.inl a2), some (.inl a3), some (.inl a4), some (.inl x37), some (.inl x44)] rfl rfl ?_
            refine ur_ldI rfl rfl ?_
            refine ur_if1 rfl (fun c45 => ?_) (fun c45 => ?_)
            · have t46 := lt_to c45
              refine ur_push rfl ?_
              refine ur_go rfl ?_
              exact ur_ret rfl rfl (hQ _ ⟨_, rfl⟩ )
            · have t47 := lt_no c45
              refine ur_ldI rfl rfl ?_
              refine ur_push rfl ?_
              refine ur_if2 rfl (fun c48 => ?_) (fun c48 => ?_)
              · have t49 := ne_to c48
                refine ur_ldI rfl rfl ?_
                refine ur_if1 rfl (fun c50 => ?_) (fun c50 => ?_)
                · have t51 := ne_to c50
                  exfalso
                  omega
                · have t52 := ne_no c50
                  refine ur_ldI rfl rfl ?_
                  refine ur_go rfl ?_
                  exact ur_ret rfl rfl (hQ _ ⟨_, rfl⟩ )
              · have t53 := ne_no c48
                refine ur_ldI rfl rfl ?_
                refine ur_if1 rfl (fun c54 => ?_) (fun c54 => ?_)
                · have t55 := le_to c54
                  refine ur_ldI rfl rfl ?_
                  refine ur_if1 rfl (fun c56 => ?_) (fun c56 => ?_)
                  · have t57 := ne_to c56
                    refine ur_ldI rfl rfl ?_
                    refine ur_ldI rfl rfl ?_
                    refine ur_binV rfl (fun x58 e59 => ?_)
                    have z60 := any_r x44
                    have z61 := any_r x37
                    have t62 := ti_sub e59 (by omega) (by omega)
                    exact ur_ret rfl rfl (hQ _ ⟨_, rfl⟩ )
                  · have t63 := ne_no c56
                    exfalso
                    omega
                · have t64 := le_no c54
                  refine ur_push rfl ?_
                  refine ur_go rfl ?_
                  exact ur_ret rfl rfl (hQ _ ⟨_, rfl⟩ )
          · have t65 := wi_noL c33 l_0 l_1
            refine ur_push rfl ?_
            exact ur_ret rfl rfl (hQ _ ⟨_, rfl⟩ )

set_option maxRecDepth 20000 in
set_option maxHeartbeats 4000000 in
theorem sf_X12_firstOf {d kc ks : Nat} {h0 : aH} {Q : Option aV → aH → Prop} (hO0 : OK h0) (hX0 : SX h0) (a1 : Int32) (b1 : 0 ≤ a1.toInt ∧ a1.toInt ≤ 11) (pre0 : a1.toInt < fI h0 4) (hQ : ∀ r, (∃ x, r = some (.inl x)) → Q r h0) : uCall Mt (d + 1) 279 [(.inr (.inr (some 69))), (.inl a1)] h0 kc ks Q := by
  have l_0 : ((0) : Int32).toInt = 0 := by decide
  refine uc_ink [some (.inr (.inr (some 69))), some (.inl a1), none] mt_279 (Nat.le_of_ble_eq_true rfl) rfl ?_
  obtain ⟨fs1, hc2⟩ := hO0.mod
  obtain ⟨f3, p4, t5⟩ := mf_4 hO0 hc2
  have t6 := fI_of hc2 p4
  refine ur_ldI rfl rfl ?_
  refine ur_svIk [some (.inr (.inr (some 69))), some (.inl a1), some (.inl a1)] rfl rfl ?_
  have L8 : ∀ (m9 : Nat) (x7 : Int32) , ((0 ≤ x7.toInt ∧ x7.toInt ≤ 11) ∧ x7.toInt < fI h0 4) → (x7.toInt.toNat) < m9 → uRun oX12_firstOf (uCall Mt (d + 0)) Q 2 ([some (.inr (.inr (some 69))), some (.inl a1), some (.inl x7)], [], h0, kc, ks) := by
    intro m9
    induction m9 with
    | zero => intro x7 iv11 mm12; omega
    | succ m9 ih10 =>
      intro x7 iv11 mm12
      refine ur_ldA rfl rfl ?_
      refine ur_get rfl hc2 (mf_11 hO0 hc2) ?_
      refine ur_ldI rfl rfl ?_
      obtain ⟨xs14, hc13, hn15, he16⟩ := hO0.int (hO0.fix 78 (by decide) rfl)
      refine ur_aldV rfl hc13 hn15 (by omega) (fun x17 hx18 => ?_)
      have t19 : -1 ≤ x17.toInt ∧ x17.toInt ≤ 11 := he16 _ _ hx18
      have t20 := SX.kx (j := x7) hX0 hc13 hx18 (by omega)
      refine ur_if1 rfl (fun c21 => ?_) (fun c21 => ?_)
      · have t22 := lt_to c21
        refine ur_ldI rfl rfl ?_
        exact ur_ret rfl rfl (hQ _ ⟨_, rfl⟩ )
      · have t23 := lt_no c21
        refine ur_ldA rfl rfl ?_
        refine ur_get rfl hc2 (mf_11 hO0 hc2) ?_
        refine ur_ldI rfl rfl ?_
        refine ur_aldV rfl hc13 hn15 (by omega) (fun x24 hx25 => ?_)
        obtain rfl : x17 = x24 := Option.some.inj (hx18.symm.trans hx25)
        refine ur_svIk [some (.inr (.inr (some 69))), some (.inl a1), some (.inl x17)] rfl rfl ?_
        refine ur_go rfl ?_
        have z26 := any_r x17
        exact ih10 x17 (by omega) (by omega)
  have z27 := any_r a1
  exact L8 _ a1 (by omega) (Nat.lt_succ_self _)

set_option maxRecDepth 20000 in
set_option maxHeartbeats 4000000 in
theorem sf_X12_kin {d kc ks : Nat} {h0 : aH} {Q : Option aV → aH → Prop} (hO0 : OK h0) (hX0 : SX h0) (a1 : Int32) (hQ : ∀ r, (∃ x, r = some (.inl x)) → Q r h0) : uCall Mt (d + 3) 280 [(.inr (.inr (some 69))), (.inl a1)] h0 kc ks Q := by
  have l_m1 : ((-1) : Int32).toInt = -1 := by decide
  have l_0 : ((0) : Int32).toInt = 0 := by decide
  have l_1 : ((1) : Int32).toInt = 1 := by decide
  refine uc_ink [some (.inr (.inr (some 69))), some (.inl a1), none, none] mt_280 (Nat.le_of_ble_eq_true rfl) rfl ?_
  obtain ⟨fs1, hc2⟩ := hO0.mod
  obtain ⟨f3, p4, t5⟩ := mf_4 hO0 hc2
  have t6 := fI_of hc2 p4
  refine ur_ldA rfl rfl ?_
  refine ur_ldI rfl rfl ?_
  refine ur_inl rfl (rcv_of hc2) (Nat.le_of_ble_eq_true rfl) (Nat.le_of_ble_eq_true rfl) (sg_isComet hO0 _ (fun w7 hr8 => ?_))
  obtain ⟨b9, rfl, t10⟩ := hr8
  show uRun _ (uCall Mt _) _ 5 (_, [(.inl (bi b9))], _, _, _)
  refine ur_neB rfl (fun c11 => ?_) (fun c11 => ?_)
  · have t12 := t10 c11
    refine ur_push rfl ?_
    refine ur_svIk [some (.inr (.inr (some 69))), some (.inl a1), some (.inl 0), none] rfl rfl ?_
    refine ur_push rfl ?_
    refine ur_svIk [some (.inr (.inr (some 69))), some (.inl a1), some (.inl 0), some (.inl 0)] rfl rfl ?_
    have L15 : ∀ (m16 : Nat) (x13 : Int32) (x14 : Int32) , ((0 ≤ x14.toInt ∧ x14.toInt ≤ 2147483647)) → ((2147483648 - x14.toInt).toNat) < m16 → uRun oX12_kin (uCall Mt (d + 2)) Q 14 ([some (.inr (.inr (some 69))), some (.inl a1), some (.inl x13), some (.inl x14)], [], h0, kc, ks) := by
      intro m16
      induction m16 with
      | zero => intro x13 x14 iv18 mm19; omega
      | succ m16 ih17 =>
        intro x13 x14 iv18 mm19
        refine ur_ldI rfl rfl ?_
        refine ur_ldA rfl rfl ?_
        refine ur_get rfl hc2 p4 ?_
        have z20 := any_r x14
        have z21 := any_r f3
        refine ur_if2 rfl (fun c22 => ?_) (fun c22 => ?_)
        · have t23 := le_to c22
          refine ur_ldI rfl rfl ?_
          exact ur_ret rfl rfl (hQ _ ⟨_, rfl⟩ )
        · have t24 := le_no c22
          refine ur_ldA rfl rfl ?_
          refine ur_ldI rfl rfl ?_
          refine ur_inl rfl (rcv_of hc2) (Nat.le_of_ble_eq_true rfl) (Nat.le_of_ble_eq_true rfl) (sf_X12_firstOf hO0 hX0 _ (by show 0 ≤ x14.toInt ∧ x14.toInt ≤ 11; omega) (by omega) (fun w25 hr26 => ?_))
          obtain ⟨x27, rfl⟩ := hr26
          show uRun _ (uCall Mt _) _ 27 (_, [(.inl x27)], _, _, _)
          refine ur_ldA rfl rfl ?_
          refine ur_ldI rfl rfl ?_
          refine ur_inl rfl (rcv_of hc2) (Nat.le_of_ble_eq_true rfl) (Nat.le_of_ble_eq_true rfl) (sf_X12_firstOf hO0 hX0 _ (by show 0 ≤ a1.toInt ∧ a1.toInt ≤ 11; omega) (by omega) (fun w28 hr29 => ?_))
          obtain ⟨x30, rfl⟩ := hr29
          show uRun _ (uCall Mt _) _ 32 (_, [(.inl x30), (.inl x27)], _, _, _)
          have z31 := any_r x27
          have z32 := any_r x30
          refine ur_if2 rfl (fun c33 => ?_) (fun c33 => ?_)
          · have t34 := ne_to c33
            refine ur_incV (fun z => [some (.inr (.inr (some 69))), some (.inl a1), some (.inl x13), some (.inl z)]) rfl rfl (fun _ => rfl) (fun x35 e36 => ?_)
            have t37 := ti_add e36 (by omega) (by omega)
            refine ur_go rfl ?_
            have z38 := any_r x35
            exact ih17 x13 x35 (by omega) (by omega)
          · have t39 := ne_no c33
            refine ur_ldI rfl rfl ?_
            refine ur_push rfl ?_
            refine ur_ldI rfl rfl ?_
            refine ur_binV rfl (fun x40 e41 => ?_)
            refine ur_binV rfl (fun x42 e43 => ?_)
            refine ur_svIk [some (.inr (.inr (some 69))), some (.inl a1), some (.inl x42), some (.inl x14)] rfl rfl ?_
            refine ur_incV (fun z => [some (.inr (.inr (some 69))), some (.inl a1), some (.inl x42), some (.inl z)]) rfl rfl (fun _ => rfl) (fun x44 e45 => ?_)
            have t46 := ti_add e45 (by omega) (by omega)
            refine ur_go rfl ?_
            have z47 := any_r x44
            exact ih17 x42 x44 (by omega) (by omega)
    exact L15 _ 0 0 (by omega) (Nat.lt_succ_self _)
  · refine ur_push rfl ?_
    exact ur_ret rfl rfl (hQ _ ⟨_, rfl⟩ )

set_option maxRecDepth 20000 in
set_option maxHeartbeats 4000000 in
theorem sf_X12_once {d kc ks : Nat} {h0 : aH} {Q : Option aV → aH → Prop} (hO0 : OK h0) (hX0 : SX h0) (a1 : Int32) (hQ : ∀ r h', (∃ x, r = some (.inl x)) → OK h' → un [] h0 h' → Q r h') : uCall Mt (d + 2) 259 [(.inr (.inr (some 69))), (.inl a1)] h0 kc ks Q := by
  have l_m1 : ((-1) : Int32).toInt = -1 := by decide
  have l_0 : ((0) : Int32).toInt = 0 := by decide
  have l_1 : ((1) : Int32).toInt = 1 := by decide
  have l_8 : ((8) : Int32).toInt = 8 := by decide
  refine uc_ink [some (.inr (.inr (some 69))), some (.inl a1), none, none] mt_259 (Nat.le_of_ble_eq_true rfl) rfl ?_
  obtain ⟨fs1, hc2⟩ := hO0.mod
  obtain ⟨f3, p4, t5⟩ := mf_38 hO0 hc2
  have t6 := fI_of hc2 p4
  refine ur_ldI rfl rfl ?_
  refine ur_push rfl ?_
  refine ur_push rfl ?_
  refine ur_callv rfl rfl (Nat.le_of_ble_eq_true rfl) (Nat.le_of_ble_eq_true rfl) rfl (sp_in _ _ _ _ _) ?_
  refine ur_neB rfl (fun c9 => ?_) (fun c9 => ?_)
  · have t10 := wi_toL c9 l_m1 l_8
    refine ur_push rfl ?_
    refine ur_svIk [some (.inr (.inr (some 69))), some (.inl a1), some (.inl 0), none] rfl rfl ?_
    have L12 : ∀ (m13 : Nat) (x11 : Int32) (h15 : aH) , OK h15 → un [] h0 h15 → ((0 ≤ x11.toInt ∧ x11.toInt ≤ 2147483647)) → ((2147483648 - x11.toInt).toNat) < m13 → uRun oX12_once (uCall Mt (d + 1)) Q 14 ([some (.inr (.inr (some 69))), some (.inl a1), some (.inl x11), none], [], h15, kc, ks) := by
      intro m13
      induction m13 with
      | zero => intro x11 h15 hO15 hu15 iv16 mm17; omega
      | succ m13 ih14 =>
        intro x11 h15 hO15 hu15 iv16 mm17
        refine ur_ldI rfl rfl ?_
        refine ur_ldA rfl rfl ?_
        obtain ⟨fs18, hc19⟩ := hO15.mod
        obtain ⟨f20, p21, t22⟩ := mf_38 hO15 hc19
        refine ur_get rfl hc19 p21 ?_
        have z23 := any_r x11
        have z24 := any_r f20
        refine ur_if2 rfl (fun c25 => ?_) (fun c25 => ?_)
        · have t26 := le_to c25
          refine ur_push rfl ?_
          refine ur_svIk [some (.inr (.inr (some 69))), some (.inl a1), some (.inl 0), none] rfl rfl ?_
          refine ur_push rfl ?_
          refine ur_svIk [some (.inr (.inr (some 69))), some (.inl a1), some (.inl 0), some (.inl 0)] rfl rfl ?_
          have t32 := fI_of hc19 p21
          have L29 : ∀ (m30 : Nat) (x27 : Int32) (x28 : Int32) (h33 : aH) , OK h33 → un [] h15 h33 → ((0 ≤ x28.toInt ∧ x28.toInt ≤ 2147483647)) → ((2147483648 - x28.toInt).toNat) < m30 → uRun oX12_once (uCall Mt (d + 1)) Q 39 ([some (.inr (.inr (some 69))), some (.inl a1), some (.inl x27), some (.inl x28)], [], h33, kc, ks) := by
            intro m30
            induction m30 with
            | zero => intro x27 x28 h33 hO33 hu33 iv34 mm35; omega
            | succ m30 ih31 =>
              intro x27 x28 h33 hO33 hu33 iv34 mm35
              refine ur_ldI rfl rfl ?_
              refine ur_ldA rfl rfl ?_
              obtain ⟨fs36, hc37⟩ := hO33.mod
              obtain ⟨f38, p39, t40⟩ := mf_38 hO33 hc37
              refine ur_get rfl hc37 p39 ?_
              have z41 := any_r x28
              have z42 := any_r f38
              refine ur_if2 rfl (fun c43 => ?_) (fun c43 => ?_)
              · have t44 := le_to c43
                refine ur_ldI rfl rfl ?_
                have t45 := fI_of hc37 p39
                have t46 := fI_keep (k := 38) hO0 hO33 (hu15.tr hu33) rfl (by decide)
                exact ur_ret rfl rfl (hQ _ _ ⟨_, rfl⟩ hO33 (hu15.tr hu33))
              · have t47 := le_no c43
                refine ur_ldI rfl rfl ?_
                refine ur_if1 rfl (fun c48 => ?_) (fun c48 => ?_)
                · have t49 := lt_to c48
                  refine ur_ldA rfl rfl ?_
                  refine ur_get rfl hc37 (mf_54 hO33 hc37) ?_
                  refine ur_ldA rfl rfl ?_
                  refine ur_ldI rfl rfl ?_
                  have t50 := fI_of hc37 p39
                  have t51 := fI_keep (k := 38) hO0 hO33 (hu15.tr hu33) rfl (by decide)
                  refine ur_inl rfl (rcv_of hc37) (Nat.le_of_ble_eq_true rfl) (Nat.le_of_ble_eq_true rfl) (sf_X12_rootOf hO33 (hX0.un hO0 hO33 (hu15.tr hu33) (by decide)) _ (by show 0 ≤ x28.toInt ∧ x28.toInt ≤ 149; omega) (by omega) (fun w52 hr53 => ?_))
                  obtain ⟨x54, rfl, t55⟩ := hr53
                  show uRun _ (uCall Mt _) _ 70 (_, [(.inl x54), (.inr (.inr (some 104)))], _, _, _)
                  obtain ⟨xs57, hc56, hn58, he59⟩ := hO33.boo (hO33.fix 104 (by decide) rfl)
                  refine ur_aldV rfl hc56 hn58 (by omega) (fun x60 hx61 => ?_)
                  refine ur_if1 rfl (fun c62 => ?_) (fun c62 => ?_)
                  · have t63 := eq_to c62
                    refine ur_ldA rfl rfl ?_
                    refine ur_get rfl hc37 (mf_54 hO33 hc37) ?_
                    refine ur_ldA rfl rfl ?_
                    refine ur_ldI rfl rfl ?_
                    refine ur_inl rfl (rcv_of hc37) (Nat.le_of_ble_eq_true rfl) (Nat.le_of_ble_eq_true rfl) (sf_X12_rootOf hO33 (hX0.un hO0 hO33 (hu15.tr hu33) (by decide)) _ (by show 0 ≤ x28.toInt ∧ x28.toInt ≤ 149; omega) (by omega) (fun w64 hr65 => ?_))
                    obtain ⟨x66, rfl, t67⟩ := hr65
                    show uRun _ (uCall Mt _) _ 86 (_, [(.inl x66), (.inr (.inr (some 104)))], _, _, _)
                    refine ur_push rfl ?_
                    refine ur_astV (W := []) (m := 150) rfl hO33 hc56 (by decide) hn58 (by omega) (any_r _) (Or.inl rfl) (fun h70 hO70 hu70 d68 hc69 => ?_)
                    refine ur_incV (fun z => [some (.inr (.inr (some 69))), some (.inl a1), some (.inl z), some (.inl x28)]) rfl rfl (fun _ => rfl) (fun x71 e72 => ?_)
                    have z73 := any_r x27
                    refine ur_incV (fun z => [some (.inr (.inr (some 69))), some (.inl a1), some (.inl x71), some (.inl z)]) rfl rfl (fun _ => rfl) (fun x74 e75 => ?_)
                    have t76 := ti_add e75 (by omega) (by omega)
                    refine ur_go rfl ?_
                    have t77 := fI_of ((d68 _ (by decide)).trans hc37) p39
                    have z78 := any_r x74
                    exact ih31 x71 x74 _ hO70 (hu33.tr hu70) (by omega) (by omega)
                  · have t79 := eq_no c62
                    refine ur_go rfl ?_
                    refine ur_incV (fun z => [some (.inr (.inr (some 69))), some (.inl a1), some (.inl x27), some (.inl z)]) rfl rfl (fun _ => rfl) (fun x80 e81 => ?_)
                    have t82 := ti_add e81 (by omega) (by omega)
                    refine ur_go rfl ?_
                    have z83 := any_r x80
                    exact ih31 x27 x80 _ hO33 hu33 (by omega) (by omega)
                · have t84 := lt_no c48
                  refine ur_ldA rfl rfl ?_
                  refine ur_get rfl hc37 (mf_40 hO33 hc37) ?_
                  refine ur_ldI rfl rfl ?_
                  obtain ⟨xs86, hc85, hn87, he88⟩ := hO33.int (hO33.fix 97 (by decide) rfl)
                  refine ur_aldV rfl hc85 hn87 (by omega) (fun x89 hx90 => ?_)
                  have t91 : 0 ≤ x89.toInt ∧ x89.toInt ≤ 8 := he88 _ _ hx90
                  refine ur_ldI rfl rfl ?_
                  have z92 := any_r x89
                  have z93 := any_r a1
                  refine ur_if2 rfl (fun c94 => ?_) (fun c94 => ?_)
                  · have t95 := ne_to c94
                    refine ur_incV (fun z => [some (.inr (.inr (some 69))), some (.inl a1), some (.inl x27), some (.inl z)]) rfl rfl (fun _ => rfl) (fun x96 e97 => ?_)
                    have t98 := ti_add e97 (by omega) (by omega)
                    refine ur_go rfl ?_
                    have t99 := fI_of hc37 p39
                    have z100 := any_r x96
                    exact ih31 x27 x96 _ hO33 hu33 (by omega) (by omega)
                  · have t101 := ne_no c94
                    refine ur_ldA rfl rfl ?_
                    refine ur_get rfl hc37 (mf_54 hO33 hc37) ?_
                    refine ur_ldA rfl rfl ?_
                    refine ur_ldI rfl rfl ?_
                    have t102 := fI_of hc37 p39
                    have t103 := fI_keep (k := 38) hO0 hO33 (hu15.tr hu33) rfl (by decide)
                    refine ur_inl rfl (rcv_of hc37) (Nat.le_of_ble_eq_true rfl) (Nat.le_of_ble_eq_true rfl) (sf_X12_rootOf hO33 (hX0.un hO0 hO33 (hu15.tr hu33) (by decide)) _ (by show 0 ≤ x28.toInt ∧ x28.toInt ≤ 149; omega) (by omega) (fun w104 hr105 => ?_))
                    obtain ⟨x106, rfl, t107⟩ := hr105
                    show uRun _ (uCall Mt _) _ 70 (_, [(.inl x106), (.inr (.inr (some 104)))], _, _, _)
                    obtain ⟨xs109, hc108, hn110, he111⟩ := hO33.boo (hO33.fix 104 (by decide) rfl)
                    refine ur_aldV rfl hc108 hn110 (by omega) (fun x112 hx113 => ?_)
                    refine ur_if1 rfl (fun c114 => ?_) (fun c114 => ?_)
                    · have t115 := eq_to c114
                      refine ur_ldA rfl rfl ?_
                      refine ur_get rfl hc37 (mf_54 hO33 hc37) ?_
                      refine ur_ldA rfl rfl ?_
                      refine ur_ldI rfl rfl ?_
                      refine ur_inl rfl (rcv_of hc37) (Nat.le_of_ble_eq_true rfl) (Nat.le_of_ble_eq_true rfl) (sf_X12_rootOf hO33 (hX0.un hO0 hO33 (hu15.tr hu33) (by decide)) _ (by show 0 ≤ x28.toInt ∧ x28.toInt ≤ 149; omega) (by omega) (fun w116 hr117 => ?_))
                      obtain ⟨x118, rfl, t119⟩ := hr117
                      show uRun _ (uCall Mt _) _ 86 (_, [(.inl x118), (.inr (.inr (some 104)))], _, _, _)
                      refine ur_push rfl ?_
                      refine ur_astV (W := []) (m := 150) rfl hO33 hc108 (by decide) hn110 (by omega) (any_r _) (Or.inl rfl) (fun h122 hO122 hu122 d120 hc121 => ?_)
                      refine ur_incV (fun z => [some (.inr (.inr (some 69))), some (.inl a1), some (.inl z), some (.inl x28)]) rfl rfl (fun _ => rfl) (fun x123 e124 => ?_)
                      have z125 := any_r x27
                      refine ur_incV (fun z => [some (.inr (.inr (some 69))), some (.inl a1), some (.inl x123), some (.inl z)]) rfl rfl (fun _ => rfl) (fun x126 e127 => ?_)
                      have t128 := ti_add e127 (by omega) (by omega)
                      refine ur_go rfl ?_
                      have t129 := fI_of ((d120 _ (by decide)).trans hc37) p39
                      have z130 := any_r x126
                      exact ih31 x123 x126 _ hO122 (hu33.tr hu122) (by omega) (by omega)
                    · have t131 := eq_no c114
                      refine ur_go rfl ?_
                      refine ur_incV (fun z => [some (.inr (.inr (some 69))), some (.inl a1), some (.inl x27), some (.inl z)]) rfl rfl (fun _ => rfl) (fun x132 e133 => ?_)
                      have t134 := ti_add e133 (by omega) (by omega)
                      refine ur_go rfl ?_
                      have z135 := any_r x132
                      exact ih31 x27 x132 _ hO33 hu33 (by omega) (by omega)
          exact L29 _ 0 0 _ hO15 un.rf (by omega) (Nat.lt_succ_self _)
        · have t136 := le_no c25
          refine ur_ldA rfl rfl ?_
          refine ur_get rfl hc19 (mf_54 hO15 hc19) ?_
          refine ur_ldI rfl rfl ?_
          refine ur_push rfl ?_
          obtain ⟨xs138, hc137, hn139, he140⟩ := hO15.boo (hO15.fix 104 (by decide) rfl)
          refine ur_astV (W := []) (m := 150) rfl hO15 hc137 (by decide) hn139 (by omega) (any_r _) (Or.inl rfl) (fun h143 hO143 hu143 d141 hc142 => ?_)
          refine ur_incV (fun z => [some (.inr (.inr (some 69))), some (.inl a1), some (.inl z), none]) rfl rfl (fun _ => rfl) (fun x144 e145 => ?_)
          have t146 := ti_add e145 (by omega) (by omega)
          refine ur_go rfl ?_
          have t147 := fI_of ((d141 _ (by decide)).trans hc19) p21
          have z148 := any_r x144
          exact ih14 x144 _ hO143 (hu15.tr hu143) (by omega) (by omega)
    exact L12 _ 0 _ hO0 un.rf (by omega) (Nat.lt_succ_self _)
  · have t149 := wi_noL c9 l_m1 l_8
    refine ur_push rfl ?_
    exact ur_ret rfl rfl (hQ _ _ ⟨_, rfl⟩ hO0 un.rf)
end CT5
