/-! CONTRACTS of the reference, printed by program -/
section CT2
set_option maxRecDepth 20000 in
set_option maxHeartbeats 4000000 in
theorem sf_X12_sizeOf {d kc ks : Nat} {h0 : aH} {Q : Option aV → aH → Prop} (a0 : Int32) (hQ : ∀ r, (∃ x : Int32, r = some (.inl x) ∧ ((0 ≤ x.toInt ∨ x.toInt = -2147483648) ∧ (0 ≤ a0.toInt → x.toInt = a0.toInt) ∧ (a0.toInt < 0 → x.toInt = -2147483648 ∨ x.toInt = -a0.toInt) ∧ (-2147483648 < a0.toInt → 0 ≤ x.toInt))) → Q r h0) : uCall Mt (d + 1) 185 [(.inl a0)] h0 kc ks Q := by
  have l_0 : ((0) : Int32).toInt = 0 := by decide
  refine uc_ink [some (.inl a0)] mt_185 (Nat.le_of_ble_eq_true rfl) rfl ?_
  refine ur_ldI rfl rfl ?_
  refine ur_if1 rfl (fun c1 => ?_) (fun c1 => ?_)
  · have t2 := le_to c1
    refine ur_ldI rfl rfl ?_
    exact ur_ret rfl rfl (hQ _ ⟨_, rfl, by omega⟩ )
  · have t3 := le_no c1
    refine ur_ldI rfl rfl ?_
    refine ur_unV rfl (fun x4 e5 => ?_)
    have z6 := any_r a0
    have t7 := ti_negw e5
    refine ur_go rfl ?_
    exact ur_ret rfl rfl (hQ _ ⟨_, rfl, by omega⟩ )

set_option maxRecDepth 20000 in
set_option maxHeartbeats 4000000 in
theorem sf_X12_apartOf {d kc ks : Nat} {h0 : aH} {Q : Option aV → aH → Prop} (a0 : Int32) (a1 : Int32) (hQ : ∀ r, (∃ x, r = some (.inl x)) → Q r h0) : uCall Mt (d + 2) 186 [(.inl a0), (.inl a1)] h0 kc ks Q := by
  have l_180 : ((180) : Int32).toInt = 180 := by decide
  have l_360 : ((360) : Int32).toInt = 360 := by decide
  refine uc_ink [some (.inl a0), some (.inl a1), none] mt_186 (Nat.le_of_ble_eq_true rfl) rfl ?_
  refine ur_ldI rfl rfl ?_
  refine ur_ldI rfl rfl ?_
  refine ur_binV rfl (fun x1 e2 => ?_)
  have z3 := any_r a0
  have z4 := any_r a1
  refine ur_inl rfl rfl (Nat.le_of_ble_eq_true rfl) (Nat.le_of_ble_eq_true rfl) (sf_X12_sizeOf _ (fun w5 hr6 => ?_))
  obtain ⟨x7, rfl, t8⟩ := hr6
  show uRun _ (uCall Mt _) _ 6 (_, [(.inl x7)], _, _, _)
  refine ur_push rfl ?_
  refine ur_divV rfl (by decide) (fun x9 e10 => ?_)
  have z11 := any_r x7
  have t12 : 0 ≤ x7.toInt → x9.toInt = x7.toInt % 360 := fun q => ti_rem e10 l_360 (by decide) q
  refine ur_svIk [some (.inl a0), some (.inl a1), some (.inl x9)] rfl rfl ?_
  refine ur_ldI rfl rfl ?_
  refine ur_push rfl ?_
  refine ur_if2 rfl (fun c13 => ?_) (fun c13 => ?_)
  · have t14 := le_to c13
    refine ur_ldI rfl rfl ?_
    exact ur_ret rfl rfl (hQ _ ⟨_, rfl⟩ )
  · have t15 := le_no c13
    refine ur_push rfl ?_
    refine ur_ldI rfl rfl ?_
    refine ur_binV rfl (fun x16 e17 => ?_)
    have z18 := any_r x9
    have t19 := ti_sub e17 (by omega) (by omega)
    refine ur_go rfl ?_
    exact ur_ret rfl rfl (hQ _ ⟨_, rfl⟩ )

set_option maxRecDepth 20000 in
set_option maxHeartbeats 4000000 in
theorem sf_X12_isComet {d kc ks : Nat} {h0 : aH} {Q : Option aV → aH → Prop} (hO0 : OK h0) (a1 : Int32) (hQ : ∀ r, (∃ q, r = some (.inl (bi q)) ∧ (q = true → 0 ≤ a1.toInt ∧ a1.toInt ≤ 11)) → Q r h0) : uCall Mt (d + 2) 187 [(.inr (.inr (some 69))), (.inl a1)] h0 kc ks Q := by
  have l_0 : ((0) : Int32).toInt = 0 := by decide
  have l_1 : ((1) : Int32).toInt = 1 := by decide
  refine uc_ink [some (.inr (.inr (some 69))), some (.inl a1)] mt_187 (Nat.le_of_ble_eq_true rfl) rfl ?_
  refine ur_ldI rfl rfl ?_
  refine ur_push rfl ?_
  refine ur_ldA rfl rfl ?_
  obtain ⟨fs1, hc2⟩ := hO0.mod
  obtain ⟨f3, p4, t5⟩ := mf_4 hO0 hc2
  refine ur_get rfl hc2 p4 ?_
  refine ur_push rfl ?_
  refine ur_binV rfl (fun x6 e7 => ?_)
  have z8 := any_r f3
  have t9 := ti_sub e7 (by omega) (by omega)
  refine ur_callv rfl rfl (Nat.le_of_ble_eq_true rfl) (Nat.le_of_ble_eq_true rfl) rfl (sp_in _ _ _ _ _) ?_
  exact ur_ret rfl (bi_ret _) (hQ _ ⟨_, rfl, fun e => by have w := wi_to e; omega⟩ )

set_option maxRecDepth 20000 in
set_option maxHeartbeats 4000000 in
theorem sf_X12_ofComet {d kc ks : Nat} {h0 : aH} {Q : Option aV → aH → Prop} (hO0 : OK h0) (a1 : Int32) (a2 : Int32) (hQ : ∀ r, (∃ x, r = some (.inl x)) → Q r h0) : uCall Mt (d + 3) 194 [(.inr (.inr (some 69))), (.inl a1), (.inl a2)] h0 kc ks Q := by
  have l_m2000000000 : ((-2000000000) : Int32).toInt = -2000000000 := by decide
  refine uc_ink [some (.inr (.inr (some 69))), some (.inl a1), some (.inl a2)] mt_194 (Nat.le_of_ble_eq_true rfl) rfl ?_
  refine ur_ldA rfl rfl ?_
  refine ur_ldI rfl rfl ?_
  obtain ⟨fs1, hc2⟩ := hO0.mod
  refine ur_inl rfl (rcv_of hc2) (Nat.le_of_ble_eq_true rfl) (Nat.le_of_ble_eq_true rfl) (sf_X12_isComet hO0 _ (fun w3 hr4 => ?_))
  obtain ⟨b5, rfl, t6⟩ := hr4
  show uRun _ (uCall Mt _) _ 5 (_, [(.inl (bi b5))], _, _, _)
  refine ur_neB rfl (fun c7 => ?_) (fun c7 => ?_)
  · have t8 := t6 c7
    refine ur_ldI rfl rfl ?_
    rcases (show (a2.toInt < 0 ∨ 7 < a2.toInt) ∨ a2.toInt = 0 ∨ a2.toInt = 1 ∨ a2.toInt = 2 ∨ a2.toInt = 3 ∨ a2.toInt = 4 ∨ a2.toInt = 5 ∨ a2.toInt = 6 ∨ a2.toInt = 7 by omega) with t9 | t9 | t9 | t9 | t9 | t9 | t9 | t9 | t9
    · refine ur_tabO rfl (by show a2.toInt < 0 ∨ 0 + 8 ≤ a2.toInt; omega) ?_
      refine ur_push rfl ?_
      exact ur_ret rfl rfl (hQ _ ⟨_, rfl⟩ )
    · refine ur_tabI rfl (by omega) (by rw [t9]; rfl) ?_
      refine ur_ldA rfl rfl ?_
      refine ur_get rfl hc2 (mf_5 hO0 hc2) ?_
      refine ur_ldI rfl rfl ?_
      obtain ⟨xs11, hc10, hn12, he13⟩ := hO0.int (hO0.fix 72 (by decide) rfl)
      refine ur_aldV rfl hc10 hn12 (by omega) (fun x14 hx15 => ?_)
      have t16 : 0 ≤ x14.toInt ∧ x14.toInt ≤ 999999 := he13 _ _ hx15
      exact ur_ret rfl rfl (hQ _ ⟨_, rfl⟩ )
    · refine ur_tabI rfl (by omega) (by rw [t9]; rfl) ?_
      refine ur_ldA rfl rfl ?_
      refine ur_get rfl hc2 (mf_6 hO0 hc2) ?_
      refine ur_ldI rfl rfl ?_
      obtain ⟨xs18, hc17, hn19, he20⟩ := hO0.int (hO0.fix 73 (by decide) rfl)
      refine ur_aldV rfl hc17 hn19 (by omega) (fun x21 hx22 => ?_)
      exact ur_ret rfl rfl (hQ _ ⟨_, rfl⟩ )
    · refine ur_tabI rfl (by omega) (by rw [t9]; rfl) ?_
      refine ur_ldA rfl rfl ?_
      refine ur_get rfl hc2 (mf_7 hO0 hc2) ?_
      refine ur_ldI rfl rfl ?_
      obtain ⟨xs24, hc23, hn25, he26⟩ := hO0.int (hO0.fix 74 (by decide) rfl)
      refine ur_aldV rfl hc23 hn25 (by omega) (fun x27 hx28 => ?_)
      exact ur_ret rfl rfl (hQ _ ⟨_, rfl⟩ )
    · refine ur_tabI rfl (by omega) (by rw [t9]; rfl) ?_
      refine ur_ldA rfl rfl ?_
      refine ur_get rfl hc2 (mf_8 hO0 hc2) ?_
      refine ur_ldI rfl rfl ?_
      obtain ⟨xs30, hc29, hn31, he32⟩ := hO0.int (hO0.fix 75 (by decide) rfl)
      refine ur_aldV rfl hc29 hn31 (by omega) (fun x33 hx34 => ?_)
      have t35 : 0 ≤ x33.toInt ∧ x33.toInt ≤ 99 := he32 _ _ hx34
      exact ur_ret rfl rfl (hQ _ ⟨_, rfl⟩ )
    · refine ur_tabI rfl (by omega) (by rw [t9]; rfl) ?_
      refine ur_ldA rfl rfl ?_
      refine ur_get rfl hc2 (mf_9 hO0 hc2) ?_
      refine ur_ldI rfl rfl ?_
      obtain ⟨xs37, hc36, hn38, he39⟩ := hO0.int (hO0.fix 76 (by decide) rfl)
      refine ur_aldV rfl hc36 hn38 (by omega) (fun x40 hx41 => ?_)
      exact ur_ret rfl rfl (hQ _ ⟨_, rfl⟩ )
    · refine ur_tabI rfl (by omega) (by rw [t9]; rfl) ?_
      refine ur_ldA rfl rfl ?_
      refine ur_get rfl hc2 (mf_10 hO0 hc2) ?_
      refine ur_ldI rfl rfl ?_
      obtain ⟨xs43, hc42, hn44, he45⟩ := hO0.int (hO0.fix 77 (by decide) rfl)
      refine ur_aldV rfl hc42 hn44 (by omega) (fun x46 hx47 => ?_)
      exact ur_ret rfl rfl (hQ _ ⟨_, rfl⟩ )
    · refine ur_tabI rfl (by omega) (by rw [t9]; rfl) ?_
      refine ur_ldA rfl rfl ?_
      refine ur_get rfl hc2 (mf_11 hO0 hc2) ?_
      refine ur_ldI rfl rfl ?_
      obtain ⟨xs49, hc48, hn50, he51⟩ := hO0.int (hO0.fix 78 (by decide) rfl)
      refine ur_aldV rfl hc48 hn50 (by omega) (fun x52 hx53 => ?_)
      have t54 : -1 ≤ x52.toInt ∧ x52.toInt ≤ 11 := he51 _ _ hx53
      exact ur_ret rfl rfl (hQ _ ⟨_, rfl⟩ )
    · refine ur_tabI rfl (by omega) (by rw [t9]; rfl) ?_
      refine ur_ldA rfl rfl ?_
      refine ur_get rfl hc2 (mf_12 hO0 hc2) ?_
      refine ur_ldI rfl rfl ?_
      obtain ⟨xs56, hc55, hn57, he58⟩ := hO0.int (hO0.fix 79 (by decide) rfl)
      refine ur_aldV rfl hc55 hn57 (by omega) (fun x59 hx60 => ?_)
      exact ur_ret rfl rfl (hQ _ ⟨_, rfl⟩ )
  · refine ur_push rfl ?_
    exact ur_ret rfl rfl (hQ _ ⟨_, rfl⟩ )

set_option maxRecDepth 20000 in
set_option maxHeartbeats 4000000 in
theorem sf_X12_pullsInAll {d kc ks : Nat} {h0 : aH} {Q : Option aV → aH → Prop} (hO0 : OK h0)  (hQ : ∀ r, (∃ x : Int32, r = some (.inl x) ∧ 0 ≤ x.toInt ∧ x.toInt ≤ 240) → Q r h0) : uCall Mt (d + 1) 195 [(.inr (.inr (some 69)))] h0 kc ks Q := by
  have l_0 : ((0) : Int32).toInt = 0 := by decide
  have l_1 : ((1) : Int32).toInt = 1 := by decide
  refine uc_ink [some (.inr (.inr (some 69))), none, none] mt_195 (Nat.le_of_ble_eq_true rfl) rfl ?_
  obtain ⟨fs1, hc2⟩ := hO0.mod
  obtain ⟨f3, p4, t5⟩ := mf_1 hO0 hc2
  have t6 := fI_of hc2 p4
  refine ur_push rfl ?_
  refine ur_svIk [some (.inr (.inr (some 69))), some (.inl 0), none] rfl rfl ?_
  refine ur_push rfl ?_
  refine ur_svIk [some (.inr (.inr (some 69))), some (.inl 0), some (.inl 0)] rfl rfl ?_
  have L9 : ∀ (m10 : Nat) (x7 : Int32) (x8 : Int32) , ((0 ≤ x7.toInt ∧ x7.toInt ≤ 240) ∧ (0 ≤ x8.toInt ∧ x8.toInt ≤ 4) ∧ x7.toInt ≤ 60 * x8.toInt) → ((5 - x8.toInt).toNat) < m10 → uRun oX12_pullsInAll (uCall Mt (d + 0)) Q 4 ([some (.inr (.inr (some 69))), some (.inl x7), some (.inl x8)], [], h0, kc, ks) := by
    intro m10
    induction m10 with
    | zero => intro x7 x8 iv12 mm13; omega
    | succ m10 ih11 =>
      intro x7 x8 iv12 mm13
      refine ur_ldI rfl rfl ?_
      refine ur_ldA rfl rfl ?_
      refine ur_get rfl hc2 p4 ?_
      have z14 := any_r x8
      have z15 := any_r f3
      refine ur_if2 rfl (fun c16 => ?_) (fun c16 => ?_)
      · have t17 := le_to c16
        refine ur_ldI rfl rfl ?_
        exact ur_ret rfl rfl (hQ _ ⟨_, rfl, by omega⟩ )
      · have t18 := le_no c16
        refine ur_ldI rfl rfl ?_
        refine ur_ldA rfl rfl ?_
        refine ur_get rfl hc2 (mf_3 hO0 hc2) ?_
        refine ur_ldI rfl rfl ?_
        obtain ⟨xs20, hc19, hn21, he22⟩ := hO0.int (hO0.fix 71 (by decide) rfl)
        refine ur_aldV rfl hc19 hn21 (by omega) (fun x23 hx24 => ?_)
        have t25 : 0 ≤ x23.toInt ∧ x23.toInt ≤ 60 := he22 _ _ hx24
        refine ur_binV rfl (fun x26 e27 => ?_)
        have z28 := any_r x7
        have z29 := any_r x23
        have t30 := ti_add e27 (by omega) (by omega)
        refine ur_svIk [some (.inr (.inr (some 69))), some (.inl x26), some (.inl x8)] rfl rfl ?_
        refine ur_incV (fun z => [some (.inr (.inr (some 69))), some (.inl x26), some (.inl z)]) rfl rfl (fun _ => rfl) (fun x31 e32 => ?_)
        have t33 := ti_add e32 (by omega) (by omega)
        refine ur_go rfl ?_
        have z34 := any_r x26
        have z35 := any_r x31
        exact ih11 x26 x31 (by omega) (by omega)
  exact L9 _ 0 0 (by omega) (Nat.lt_succ_self _)

set_option maxRecDepth 20000 in
set_option maxHeartbeats 4000000 in
theorem sf_X12_wideOf {d kc ks : Nat} {h0 : aH} {Q : Option aV → aH → Prop} (hO0 : OK h0) (a1 : Int32) (b1 : -60 ≤ a1.toInt ∧ a1.toInt ≤ 60) (hQ : ∀ r, (∃ x : Int32, r = some (.inl x) ∧ 0 ≤ x.toInt ∧ x.toInt ≤ 14400) → Q r h0) : uCall Mt (d + 2) 201 [(.inr (.inr (some 69))), (.inl a1)] h0 kc ks Q := by
  refine uc_ink [some (.inr (.inr (some 69))), some (.inl a1)] mt_201 (Nat.le_of_ble_eq_true rfl) rfl ?_
  refine ur_ldI rfl rfl ?_
  refine ur_inl rfl rfl (Nat.le_of_ble_eq_true rfl) (Nat.le_of_ble_eq_true rfl) (sf_X12_sizeOf _ (fun w1 hr2 => ?_))
  obtain ⟨x3, rfl, t4⟩ := hr2
  show uRun _ (uCall Mt _) _ 4 (_, [(.inl x3)], _, _, _)
  have t5 : 0 ≤ x3.toInt ∧ x3.toInt ≤ 60 := by omega
  refine ur_ldA rfl rfl ?_
  obtain ⟨fs6, hc7⟩ := hO0.mod
  obtain ⟨f8, p9, t10⟩ := mf_1 hO0 hc7
  have t11 := fI_of hc7 p9
  refine ur_inl rfl (rcv_of hc7) (Nat.le_of_ble_eq_true rfl) (Nat.le_of_ble_eq_true rfl) (sf_X12_pullsInAll hO0  (fun w12 hr13 => ?_))
  obtain ⟨x14, rfl, t15⟩ := hr13
  show uRun _ (uCall Mt _) _ 8 (_, [(.inl x14), (.inl x3)], _, _, _)
  refine ur_binV rfl (fun x16 e17 => ?_)
  have z18 := any_r x3
  have z19 := any_r x14
  have t20 := ti_mulB (b := 60) (d := 240) e17 (by omega) (by omega) (by decide)
  exact ur_ret rfl rfl (hQ _ ⟨_, rfl, by omega⟩ )

set_option maxRecDepth 20000 in
set_option maxHeartbeats 4000000 in
theorem sf_X12_sunApart {d kc ks : Nat} {h0 : aH} {Q : Option aV → aH → Prop} (hO0 : OK h0) (a1 : Int32) (hQ : ∀ r, (∃ x, r = some (.inl x)) → Q r h0) : uCall Mt (d + 3) 205 [(.inr (.inr (some 69))), (.inl a1)] h0 kc ks Q := by
  have l_360 : ((360) : Int32).toInt = 360 := by decide
  refine uc_ink [some (.inr (.inr (some 69))), some (.inl a1)] mt_205 (Nat.le_of_ble_eq_true rfl) rfl ?_
  refine ur_ldA rfl rfl ?_
  obtain ⟨fs1, hc2⟩ := hO0.mod
  obtain ⟨f3, p4⟩ := mf_15 hO0 hc2
  refine ur_get rfl hc2 p4 ?_
  refine ur_ldI rfl rfl ?_
  refine ur_push rfl ?_
  refine ur_divV rfl (by decide) (fun x5 e6 => ?_)
  have z7 := any_r a1
  have t8 : 0 ≤ a1.toInt → x5.toInt = a1.toInt % 360 := fun q => ti_rem e6 l_360 (by decide) q
  refine ur_inl rfl rfl (Nat.le_of_ble_eq_true rfl) (Nat.le_of_ble_eq_true rfl) (sf_X12_apartOf _ _ (fun w9 hr10 => ?_))
  obtain ⟨x11, rfl⟩ := hr10
  show uRun _ (uCall Mt _) _ 12 (_, [(.inl x11)], _, _, _)
  exact ur_ret rfl rfl (hQ _ ⟨_, rfl⟩ )

set_option maxRecDepth 20000 in
set_option maxHeartbeats 4000000 in
theorem sf_X12_findFacts {d kc ks : Nat} {h0 : aH} {Q : Option aV → aH → Prop} (hO0 : OK h0) (a1 : Int32) (b1 : 0 ≤ a1.toInt ∧ a1.toInt ≤ 11) (a2 : Int32) (a3 : Int32) (hQ : ∀ r h', (r = none) → OK h' → un [] h0 h' → Q r h') : uCall Mt (d + 4) 206 [(.inr (.inr (some 69))), (.inl a1), (.inl a2), (.inl a3)] h0 kc ks Q := by
  have l_0 : ((0) : Int32).toInt = 0 := by decide
  have l_1 : ((1) : Int32).toInt = 1 := by decide
  have l_2 : ((2) : Int32).toInt = 2 := by decide
  have l_3 : ((3) : Int32).toInt = 3 := by decide
  have l_4 : ((4) : Int32).toInt = 4 := by decide
  have l_5 : ((5) : Int32).toInt = 5 := by decide
  have l_6 : ((6) : Int32).toInt = 6 := by decide
  have l_30 : ((30) : Int32).toInt = 30 := by decide
  refine uc_ink [some (.inr (.inr (some 69))), some (.inl a1), some (.inl a2), some (.inl a3), none] mt_206 (Nat.le_of_ble_eq_true rfl) rfl ?_
  refine ur_push rfl ?_
  refine ur_svIk [some (.inr (.inr (some 69))), some (.inl a1), some (.inl a2), some (.inl a3), some (.inl 0)] rfl rfl ?_
  have L2 : ∀ (m3 : Nat) (x1 : Int32) (h5 : aH) , OK h5 → un [] h0 h5 → ((0 ≤ x1.toInt ∧ x1.toInt ≤ 2147483647)) → ((2147483648 - x1.toInt).toNat) < m3 → uRun oX12_findFacts (uCall Mt (d + 3)) Q 3 ([some (.inr (.inr (some 69))), some (.inl a1), some (.inl a2), some (.inl a3), some (.inl x1)], [], h5, kc, ks) := by
    intro m3
    induction m3 with
    | zero => intro x1 h5 hO5 hu5 iv6 mm7; omega
    | succ m3 ih4 =>
      intro x1 h5 hO5 hu5 iv6 mm7
      refine ur_ldI rfl rfl ?_
      refine ur_ldA rfl rfl ?_
      obtain ⟨fs8, hc9⟩ := hO5.mod
      refine ur_get rfl hc9 (mf_29 hO5 hc9) ?_
      obtain ⟨xs11, hc10, hn12, he13⟩ := hO5.int (hO5.fix 88 (by decide) rfl)
      refine ur_lenV (m := 10) rfl hc10 hn12 (by decide) (fun x14 t15 => ?_)
      have z16 := any_r x1
      have z17 := any_r x14
      refine ur_if2 rfl (fun c18 => ?_) (fun c18 => ?_)
      · have t19 := le_to c18
        refine ur_ldA rfl rfl ?_
        refine ur_get rfl hc9 (mf_29 hO5 hc9) ?_
        refine ur_push rfl ?_
        refine ur_ldA rfl rfl ?_
        refine ur_ldI rfl rfl ?_
        refine ur_inl rfl (rcv_of hc9) (Nat.le_of_ble_eq_true rfl) (Nat.le_of_ble_eq_true rfl) (sf_X12_sunApart hO5 _ (fun w20 hr21 => ?_))
        obtain ⟨x22, rfl⟩ := hr21
        show uRun _ (uCall Mt _) _ 37 (_, [(.inl x22), (.inl 0), (.inr (.inr (some 88)))], _, _, _)
        refine ur_astV (W := []) (m := 10) rfl hO5 hc10 (by decide) hn12 (by omega) (any_r _) (Or.inl rfl) (fun h25 hO25 hu25 d23 hc24 => ?_)
        refine ur_ldA rfl rfl ?_
        refine ur_get rfl ((d23 _ (by decide)).trans hc9) (mf_29 hO25 ((d23 _ (by decide)).trans hc9)) ?_
        refine ur_push rfl ?_
        refine ur_ldA rfl rfl ?_
        obtain ⟨f26, p27⟩ := mf_16 hO25 ((d23 _ (by decide)).trans hc9)
        refine ur_get rfl ((d23 _ (by decide)).trans hc9) p27 ?_
        obtain ⟨xs29, hc28, hn30, he31⟩ := hO25.int (hO25.fix 88 (by decide) rfl)
        refine ur_astV (W := []) (m := 10) rfl hO25 hc28 (by decide) hn30 (by omega) (any_r _) (Or.inl rfl) (fun h34 hO34 hu34 d32 hc33 => ?_)
        refine ur_ldA rfl rfl ?_
        refine ur_get rfl ((d32 _ (by decide)).trans ((d23 _ (by decide)).trans hc9)) (mf_29 hO34 ((d32 _ (by decide)).trans ((d23 _ (by decide)).trans hc9))) ?_
        refine ur_push rfl ?_
        refine ur_ldA rfl rfl ?_
        refine ur_get rfl ((d32 _ (by decide)).trans ((d23 _ (by decide)).trans hc9)) (mf_10 hO34 ((d32 _ (by decide)).trans ((d23 _ (by decide)).trans hc9))) ?_
        refine ur_ldI rfl rfl ?_
        obtain ⟨xs36, hc35, hn37, he38⟩ := hO34.int (hO34.fix 77 (by decide) rfl)
        refine ur_aldV rfl hc35 hn37 (by omega) (fun x39 hx40 => ?_)
        obtain ⟨xs42, hc41, hn43, he44⟩ := hO34.int (hO34.fix 88 (by decide) rfl)
        refine ur_astV (W := []) (m := 10) rfl hO34 hc41 (by decide) hn43 (by omega) (any_r _) (Or.inl rfl) (fun h47 hO47 hu47 d45 hc46 => ?_)
        refine ur_ldA rfl rfl ?_
        have hc48 := ((d45 _ (by decide)).trans ((d32 _ (by decide)).trans ((d23 _ (by decide)).trans hc9)))
        refine ur_get rfl hc48 (mf_29 hO47 hc48) ?_
        refine ur_push rfl ?_
        refine ur_ldA rfl rfl ?_
        obtain ⟨f49, p50⟩ := mf_15 hO47 hc48
        refine ur_get rfl hc48 p50 ?_
        obtain ⟨xs52, hc51, hn53, he54⟩ := hO47.int (hO47.fix 88 (by decide) rfl)
        refine ur_astV (W := []) (m := 10) rfl hO47 hc51 (by decide) hn53 (by omega) (any_r _) (Or.inl rfl) (fun h57 hO57 hu57 d55 hc56 => ?_)
        refine ur_ldA rfl rfl ?_
        refine ur_get rfl ((d55 _ (by decide)).trans hc48) (mf_29 hO57 ((d55 _ (by decide)).trans hc48)) ?_
        refine ur_push rfl ?_
        refine ur_ldA rfl rfl ?_
        obtain ⟨f58, p59⟩ := mf_17 hO57 ((d55 _ (by decide)).trans hc48)
        refine ur_get rfl ((d55 _ (by decide)).trans hc48) p59 ?_
        obtain ⟨xs61, hc60, hn62, he63⟩ := hO57.int (hO57.fix 88 (by decide) rfl)
        refine ur_astV (W := []) (m := 10) rfl hO57 hc60 (by decide) hn62 (by omega) (any_r _) (Or.inl rfl) (fun h66 hO66 hu66 d64 hc65 => ?_)
        refine ur_ldA rfl rfl ?_
        refine ur_get rfl ((d64 _ (by decide)).trans ((d55 _ (by decide)).trans hc48)) (mf_29 hO66 ((d64 _ (by decide)).trans ((d55 _ (by decide)).trans hc48))) ?_
        refine ur_push rfl ?_
        refine ur_ldI rfl rfl ?_
        refine ur_push rfl ?_
        refine ur_divV rfl (by decide) (fun x67 e68 => ?_)
        have z69 := any_r a3
        have t70 : 0 ≤ a3.toInt → x67.toInt = a3.toInt % 30 := fun q => ti_rem e68 l_30 (by decide) q
        obtain ⟨xs72, hc71, hn73, he74⟩ := hO66.int (hO66.fix 88 (by decide) rfl)
        refine ur_astV (W := []) (m := 10) rfl hO66 hc71 (by decide) hn73 (by omega) (any_r _) (Or.inl rfl) (fun h77 hO77 hu77 d75 hc76 => ?_)
        refine ur_ldA rfl rfl ?_
        have hc78 := ((d75 _ (by decide)).trans ((d64 _ (by decide)).trans ((d55 _ (by decide)).trans hc48)))
        refine ur_get rfl hc78 (mf_29 hO77 hc78) ?_
        refine ur_push rfl ?_
        refine ur_ldI rfl rfl ?_
        obtain ⟨xs80, hc79, hn81, he82⟩ := hO77.int (hO77.fix 88 (by decide) rfl)
        refine ur_astV (W := []) (m := 10) rfl hO77 hc79 (by decide) hn81 (by omega) (any_r _) (Or.inl rfl) (fun h85 hO85 hu85 d83 hc84 => ?_)
        exact ur_ret0 rfl (hQ _ _ rfl hO85 (hu5.tr (hu25.tr (hu34.tr (hu47.tr (hu57.tr (hu66.tr (hu77.tr hu85))))))))
      · have t86 := le_no c18
        refine ur_ldA rfl rfl ?_
        refine ur_get rfl hc9 (mf_29 hO5 hc9) ?_
        refine ur_ldI rfl rfl ?_
        refine ur_push rfl ?_
        refine ur_astV (W := []) (m := 10) rfl hO5 hc10 (by decide) hn12 (by omega) (any_r _) (Or.inl rfl) (fun h89 hO89 hu89 d87 hc88 => ?_)
        refine ur_incV (fun z => [some (.inr (.inr (some 69))), some (.inl a1), some (.inl a2), some (.inl a3), some (.inl z)]) rfl rfl (fun _ => rfl) (fun x90 e91 => ?_)
        have t92 := ti_add e91 (by omega) (by omega)
        refine ur_go rfl ?_
        have z93 := any_r x90
        exact ih4 x90 _ hO89 (hu5.tr hu89) (by omega) (by omega)
  exact L2 _ 0 _ hO0 un.rf (by omega) (Nat.lt_succ_self _)

set_option maxRecDepth 20000 in
set_option maxHeartbeats 4000000 in
theorem sf_X12_twoOf {d kc ks : Nat} {h0 : aH} {Q : Option aV → aH → Prop} (a0 : Int32) (a1 : Int32) (a2 : Int32) (hQ : ∀ r, (∃ x, r = some (.inl x)) → Q r h0) : uCall Mt (d + 1) 228 [(.inl a0), (.inl a1), (.inl a2)] h0 kc ks Q := by
  have l_m1 : ((-1) : Int32).toInt = -1 := by decide
  have l_0 : ((0) : Int32).toInt = 0 := by decide
  have l_1 : ((1) : Int32).toInt = 1 := by decide
  refine uc_ink [some (.inl a0), some (.inl a1), some (.inl a2)] mt_228 (Nat.le_of_ble_eq_true rfl) rfl ?_
  refine ur_ldI rfl rfl ?_
  rcases (show (a0.toInt < 37 ∨ 62 < a0.toInt) ∨ a0.toInt = 37 ∨ a0.toInt = 38 ∨ a0.toInt = 39 ∨ a0.toInt = 40 ∨ a0.toInt = 41 ∨ a0.toInt = 42 ∨ a0.toInt = 43 ∨ a0.toInt = 44 ∨ a0.toInt = 45 ∨ a0.toInt = 46 ∨ a0.toInt = 47 ∨ a0.toInt = 48 ∨ a0.toInt = 49 ∨ a0.toInt = 50 ∨ a0.toInt = 51 ∨ a0.toInt = 52 ∨ a0.toInt = 53 ∨ a0.toInt = 54 ∨ a0.toInt = 55 ∨ a0.toInt = 56 ∨ a0.toInt = 57 ∨ a0.toInt = 58 ∨ a0.toInt = 59 ∨ a0.toInt = 60 ∨ a0.toInt = 61 ∨ a0.toInt = 62 by omega) with t1 | t1 | t1 | t1 | t1 | t1 | t1 | t1 | t1 | t1 | t1 | t1 | t1 | t1 | t1 | t1 | t1 | t1 | t1 | t1 | t1 | t1 | t1 | t1 | t1 | t1 | t1
  · refine ur_tabO rfl (by show a0.toInt < 37 ∨ 37 + 26 ≤ a0.toInt; omega) ?_
    refine ur_ldI rfl rfl ?_
    refine ur_if1 rfl (fun c2 => ?_) (fun c2 => ?_)
    · have t3 := ne_to c2
      refine ur_push rfl ?_
      refine ur_go rfl ?_
      exact ur_ret rfl rfl (hQ _ ⟨_, rfl⟩ )
    · have t4 := ne_no c2
      refine ur_ldI rfl rfl ?_
      refine ur_if1 rfl (fun c5 => ?_) (fun c5 => ?_)
      · have t6 := eq_to c5
        refine ur_push rfl ?_
        exact ur_ret rfl rfl (hQ _ ⟨_, rfl⟩ )
      · have t7 := eq_no c5
        refine ur_push rfl ?_
        refine ur_go rfl ?_
        exact ur_ret rfl rfl (hQ _ ⟨_, rfl⟩ )
  · refine ur_tabI rfl (by omega) (by rw [t1]; rfl) ?_
    refine ur_ldI rfl rfl ?_
    refine ur_if1 rfl (fun c8 => ?_) (fun c8 => ?_)
    · have t9 := eq_to c8
      refine ur_push rfl ?_
      refine ur_go rfl ?_
      exact ur_ret rfl rfl (hQ _ ⟨_, rfl⟩ )
    · have t10 := eq_no c8
      refine ur_ldI rfl rfl ?_
      refine ur_push rfl ?_
      refine ur_if2 rfl (fun c11 => ?_) (fun c11 => ?_)
      · have t12 := ne_to c11
        refine ur_ldI rfl rfl ?_
        refine ur_ldI rfl rfl ?_
        refine ur_divV rfl (of_decide_eq_false c8) (fun x13 e14 => ?_)
        have z15 := any_r a1
        have z16 := any_r a2
        exact ur_ret rfl rfl (hQ _ ⟨_, rfl⟩ )
      · have t17 := ne_no c11
        refine ur_push rfl ?_
        refine ur_go rfl ?_
        exact ur_ret rfl rfl (hQ _ ⟨_, rfl⟩ )
  · refine ur_tabI rfl (by omega) (by rw [t1]; rfl) ?_
    refine ur_ldI rfl rfl ?_
    refine ur_if1 rfl (fun c18 => ?_) (fun c18 => ?_)
    · have t19 := eq_to c18
      refine ur_push rfl ?_
      exact ur_ret rfl rfl (hQ _ ⟨_, rfl⟩ )
    · have t20 := eq_no c18
      refine ur_ldI rfl rfl ?_
      refine ur_if1 rfl (fun c21 => ?_) (fun c21 => ?_)
      · have t22 := eq_to c21
        refine ur_push rfl ?_
        exact ur_ret rfl rfl (hQ _ ⟨_, rfl⟩ )
      · have t23 := eq_no c21
        refine ur_push rfl ?_
        refine ur_go rfl ?_
        exact ur_ret rfl rfl (hQ _ ⟨_, rfl⟩ )
  · refine ur_tabI rfl (by omega) (by rw [t1]; rfl) ?_
    refine ur_ldI rfl rfl ?_
    refine ur_if1 rfl (fun c24 => ?_) (fun c24 => ?_)
    · have t25 := ne_to c24
      refine ur_push rfl ?_
      refine ur_go rfl ?_
      exact ur_ret rfl rfl (hQ _ ⟨_, rfl⟩ )
    · have t26 := ne_no c24
      refine ur_ldI rfl rfl ?_
      refine ur_if1 rfl (fun c27 => ?_) (fun c27 => ?_)
      · have t28 := eq_to c27
        refine ur_push rfl ?_
        exact ur_ret rfl rfl (hQ _ ⟨_, rfl⟩ )
      · have t29 := eq_no c27
        refine ur_push rfl ?_
        refine ur_go rfl ?_
        exact ur_ret rfl rfl (hQ _ ⟨_, rfl⟩ )
  · refine ur_tabI rfl (by omega) (by rw [t1]; rfl) ?_
    refine ur_ldI rfl rfl ?_
    refine ur_if1 rfl (fun c30 => ?_) (fun c30 => ?_)
    · have t31 := ne_to c30
      refine ur_push rfl ?_
      refine ur_go rfl ?_
      exact ur_ret rfl rfl (hQ _ ⟨_, rfl⟩ )
    · have t32 := ne_no c30
      refine ur_ldI rfl rfl ?_
      refine ur_if1 rfl (fun c33 => ?_) (fun c33 => ?_)
      · have t34 := eq_to c33
        refine ur_push rfl ?_
        exact ur_ret rfl rfl (hQ _ ⟨_, rfl⟩ )
      · have t35 := eq_no c33
        refine ur_push rfl ?_
        refine ur_go rfl ?_
        exact ur_ret rfl rfl (hQ _ ⟨_, rfl⟩ )
  · refine ur_tabI rfl (by omega) (by rw [t1]; rfl) ?_
    refine ur_ldI rfl rfl ?_
    refine ur_if1 rfl (fun c36 => ?_) (fun c36 => ?_)
    · have t37 := ne_to c36
      refine ur_push rfl ?_
      refine ur_go rfl ?_
      exact ur_ret rfl rfl (hQ _ ⟨_, rfl⟩ )
    · have t38 := ne_no c36
      refine ur_ldI rfl rfl ?_
      refine ur_if1 rfl (fun c39 => ?_) (fun c39 => ?_)
      · have t40 := eq_to c39
        refine ur_push rfl ?_
        exact ur_ret rfl rfl (hQ _ ⟨_, rfl⟩ )
      · have t41 := eq_no c39
        refine ur_push rfl ?_
        refine ur_go rfl ?_
        exact ur_ret rfl rfl (hQ _ ⟨_, rfl⟩ )
  · refine ur_tabI rfl (by omega) (by rw [t1]; rfl) ?_
    refine ur_ldI rfl rfl ?_
    refine ur_ldI rfl rfl ?_
    refine ur_binV rfl (fun x42 e43 => ?_)
    have z44 := any_r a1
    have z45 := any_r a2
    exact ur_ret rfl rfl (hQ _ ⟨_, rfl⟩ )
  · refine ur_tabI rfl (by omega) (by rw [t1]; rfl) ?_
    refine ur_ldI rfl rfl ?_
    refine ur_ldI rfl rfl ?_
    refine ur_binV rfl (fun x46 e47 => ?_)
    have z48 := any_r a1
    have z49 := any_r a2
    exact ur_ret rfl rfl (hQ _ ⟨_, rfl⟩ )
  · refine ur_tabI rfl (by omega) (by rw [t1]; rfl) ?_
    refine ur_ldI rfl rfl ?_
    refine ur_if1 rfl (fun c50 => ?_) (fun c50 => ?_)
    · have t51 := ne_to c50
      refine ur_push rfl ?_
      refine ur_go rfl ?_
      exact ur_ret rfl rfl (hQ _ ⟨_, rfl⟩ )
    · have t52 := ne_no c50
      refine ur_ldI rfl rfl ?_
      refine ur_if1 rfl (fun c53 => ?_) (fun c53 => ?_)
      · have t54 := eq_to c53
        refine ur_push rfl ?_
        exact ur_ret rfl rfl (hQ _ ⟨_, rfl⟩ )
      · have t55 := eq_no c53
        refine ur_push rfl ?_
        refine ur_go rfl ?_
        exact ur_ret rfl rfl (hQ _ ⟨_, rfl⟩ )
  · refine ur_tabI rfl (by omega) (by rw [t1]; rfl) ?_
    refine ur_ldI rfl rfl ?_
    refine ur_ldI rfl rfl ?_
    refine ur_binV rfl (fun x56 e57 => ?_)
    have z58 := any_r a1
    have z59 := any_r a2
    exact ur_ret rfl rfl (hQ _ ⟨_, rfl⟩ )
  · refine ur_tabI rfl (by omega) (by rw [t1]; rfl) ?_
    refine ur_ldI rfl rfl ?_
    refine ur_if1 rfl (fun c60 => ?_) (fun c60 => ?_)
    · have t61 := ne_to c60
      refine ur_push rfl ?_
      refine ur_go rfl ?_
      exact ur_ret rfl rfl (hQ _ ⟨_, rfl⟩ )
    · have t62 := ne_no c60
      refine ur_ldI rfl rfl ?_
      refine ur_if1 rfl (fun c63 => ?_) (fun c63 => ?_)
      · have t64 := eq_to c63
        refine ur_push rfl ?_
        exact ur_ret rfl rfl (hQ _ ⟨_, rfl⟩ )
      · have t65 := eq_no c63
        refine ur_push rfl ?_
        refine ur_go rfl ?_
        exact ur_ret rfl rfl (hQ _ ⟨_, rfl⟩ )
  · refine ur_tabI rfl (by omega) (by rw [t1]; rfl) ?_
    refine ur_ldI rfl rfl ?_
    refine ur_if1 rfl (fun c66 => ?_) (fun c66 => ?_)
    · have t67 := ne_to c66
      refine ur_ldI rfl rfl ?_
      refine ur_push rfl ?_
      refine ur_if2 rfl (fun c68 => ?_) (fun c68 => ?_)
      · have t69 := ne_to c68
        refine ur_ldI rfl rfl ?_
        refine ur_ldI rfl rfl ?_
        refine ur_divV rfl (of_decide_eq_true c66) (fun x70 e71 => ?_)
        have z72 := any_r a1
        have z73 := any_r a2
        exact ur_ret rfl rfl (hQ _ ⟨_, rfl⟩ )
      · have t74 := ne_no c68
        refine ur_ldI rfl rfl ?_
        refine ur_unV rfl (fun x75 e76 => ?_)
        have z77 := any_r a1
        refine ur_go rfl ?_
        exact ur_ret rfl rfl (hQ _ ⟨_, rfl⟩ )
    · have t78 := ne_no c66
      refine ur_push rfl ?_
      refine ur_go rfl ?_
      exact ur_ret rfl rfl (hQ _ ⟨_, rfl⟩ )
  · refine ur_tabI rfl (by omega) (by rw [t1]; rfl) ?_
    refine ur_ldI rfl rfl ?_
    refine ur_if1 rfl (fun c79 => ?_) (fun c79 => ?_)
    · have t80 := ne_to c79
      refine ur_push rfl ?_
      refine ur_go rfl ?_
      exact ur_ret rfl rfl (hQ _ ⟨_, rfl⟩ )
    · have t81 := ne_no c79
      refine ur_ldI rfl rfl ?_
      refine ur_if1 rfl (fun c82 => ?_) (fun c82 => ?_)
      · have t83 := eq_to c82
        refine ur_push rfl ?_
        exact ur_ret rfl rfl (hQ _ ⟨_, rfl⟩ )
      · have t84 := eq_no c82
        refine ur_push rfl ?_
        refine ur_go rfl ?_
        exact ur_ret rfl rfl (hQ _ ⟨_, rfl⟩ )
  · refine ur_tabI rfl (by omega) (by rw [t1]; rfl) ?_
    refine ur_ldI rfl rfl ?_
    refine ur_if1 rfl (fun c85 => ?_) (fun c85 => ?_)
    · have t86 := ne_to c85
      refine ur_push rfl ?_
      refine ur_go rfl ?_
      exact ur_ret rfl rfl (hQ _ ⟨_, rfl⟩ )
    · have t87 := ne_no c85
      refine ur_ldI rfl rfl ?_
      refine ur_if1 rfl (fun c88 => ?_) (fun c88 => ?_)
      · have t89 := eq_to c88
        refine ur_push rfl ?_
        exact ur_ret rfl rfl (hQ _ ⟨_, rfl⟩ )
      · have t90 := eq_no c88
        refine ur_push rfl ?_
        refine ur_go rfl ?_
        exact ur_ret rfl rfl (hQ _ ⟨_, rfl⟩ )
  · refine ur_tabI rfl (by omega) (by rw [t1]; rfl) ?_
    refine ur_ldI rfl rfl ?_
    refine ur_if1 rfl (fun c91 => ?_) (fun c91 => ?_)
    · have t92 := ne_to c91
      refine ur_push rfl ?_
      refine ur_go rfl ?_
      exact ur_ret rfl rfl (hQ _ ⟨_, rfl⟩ )
    · have t93 := ne_no c91
      refine ur_ldI rfl rfl ?_
      refine ur_if1 rfl (fun c94 => ?_) (fun c94 => ?_)
      · have t95 := eq_to c94
        refine ur_push rfl ?_
        exact ur_ret rfl rfl (hQ _ ⟨_, rfl⟩ )
      · have t96 := eq_no c94
        refine ur_push rfl ?_
        refine ur_go rfl ?_
        exact ur_ret rfl rfl (hQ _ ⟨_, rfl⟩ )
  · refine ur_tabI rfl (by omega) (by rw [t1]; rfl) ?_
    refine ur_ldI rfl rfl ?_
    refine ur_if1 rfl (fun c97 => ?_) (fun c97 => ?_)
    · have t98 := ne_to c97
      refine ur_push rfl ?_
      refine ur_go rfl ?_
      exact ur_ret rfl rfl (hQ _ ⟨_, rfl⟩ )
    · have t99 := ne_no c97
      refine ur_ldI rfl rfl ?_
      refine ur_if1 rfl (fun c100 => ?_) (fun c100 => ?_)
      · have t101 := eq_to c100
        refine ur_push rfl ?_
        exact ur_ret rfl rfl (hQ _ ⟨_, rfl⟩ )
      · have t102 := eq_no c100
        refine ur_push rfl ?_
        refine ur_go rfl ?_
        exact ur_ret rfl rfl (hQ _ ⟨_, rfl⟩ )
  · refine ur_tabI rfl (by omega) (by rw [t1]; rfl) ?_
    refine ur_ldI rfl rfl ?_
    refine ur_if1 rfl (fun c103 => ?_) (fun c103 => ?_)
    · have t104 := ne_to c103
      refine ur_push rfl ?_
      refine ur_go rfl ?_
      exact ur_ret rfl rfl (hQ _ ⟨_, rfl⟩ )
    · have t105 := ne_no c103
      refine ur_ldI rfl rfl ?_
      refine ur_if1 rfl (fun c106 => ?_) (fun c106 => ?_)
      · have t107 := eq_to c106
        refine ur_push rfl ?_
        exact ur_ret rfl rfl (hQ _ ⟨_, rfl⟩ )
      · have t108 := eq_no c106
        refine ur_push rfl ?_
        refine ur_go rfl ?_
        exact ur_ret rfl rfl (hQ _ ⟨_, rfl⟩ )
  · refine ur_tabI rfl (by omega) (by rw [t1]; rfl) ?_
    refine ur_ldI rfl rfl ?_
    refine ur_if1 rfl (fun c109 => ?_) (fun c109 => ?_)
    · have t110 := ne_to c109
      refine ur_push rfl ?_
      refine ur_go rfl ?_
      exact ur_ret rfl rfl (hQ _ ⟨_, rfl⟩ )
    · have t111 := ne_no c109
      refine ur_ldI rfl rfl ?_
      refine ur_if1 rfl (fun c112 => ?_) (fun c112 => ?_)
      · have t113 := eq_to c112
        refine ur_push rfl ?_
        exact ur_ret rfl rfl (hQ _ ⟨_, rfl⟩ )
      · have t114 := eq_no c112
        refine ur_push rfl ?_
        refine ur_go rfl ?_
        exact ur_ret rfl rfl (hQ _ ⟨_, rfl⟩ )
  · refine ur_tabI rfl (by omega) (by rw [t1]; rfl) ?_
    refine ur_ldI rfl rfl ?_
    refine ur_if1 rfl (fun c115 => ?_) (fun c115 => ?_)
    · have t116 := ne_to c115
      refine ur_push rfl ?_
      refine ur_go rfl ?_
      exact ur_ret rfl rfl (hQ _ ⟨_, rfl⟩ )
    · have t117 := ne_no c115
      refine ur_ldI rfl rfl ?_
      refine ur_if1 rfl (fun c118 => ?_) (fun c118 => ?_)
      · have t119 := eq_to c118
        refine ur_push rfl ?_
        exact ur_ret rfl rfl (hQ _ ⟨_, rfl⟩ )
      · have t120 := eq_no c118
        refine ur_push rfl ?_
        refine ur_go rfl ?_
        exact ur_ret rfl rfl (hQ _ ⟨_, rfl⟩ )
  · refine ur_tabI rfl (by omega) (by rw [t1]; rfl) ?_
    refine ur_ldI rfl rfl ?_
    refine ur_if1 rfl (fun c121 => ?_) (fun c121 => ?_)
    · have t122 := ne_to c121
      refine ur_push rfl ?_
      refine ur_go rfl ?_
      exact ur_ret rfl rfl (hQ _ ⟨_, rfl⟩ )
    · have t123 := ne_no c121
      refine ur_ldI rfl rfl ?_
      refine ur_if1 rfl (fun c124 => ?_) (fun c124 => ?_)
      · have t125 := eq_to c124
        refine ur_push rfl ?_
        exact ur_ret rfl rfl (hQ _ ⟨_, rfl⟩ )
      · have t126 := eq_no c124
        refine ur_push rfl ?_
        refine ur_go rfl ?_
        exact ur_ret rfl rfl (hQ _ ⟨_, rfl⟩ )
  · refine ur_tabI rfl (by omega) (by rw [t1]; rfl) ?_
    refine ur_ldI rfl rfl ?_
    refine ur_if1 rfl (fun c127 => ?_) (fun c127 => ?_)
    · have t128 := ne_to c127
      refine ur_push rfl ?_
      refine ur_go rfl ?_
      exact ur_ret rfl rfl (hQ _ ⟨_, rfl⟩ )
    · have t129 := ne_no c127
      refine ur_ldI rfl rfl ?_
      refine ur_if1 rfl (fun c130 => ?_) (fun c130 => ?_)
      · have t131 := eq_to c130
        refine ur_push rfl ?_
        exact ur_ret rfl rfl (hQ _ ⟨_, rfl⟩ )
      · have t132 := eq_no c130
        refine ur_push rfl ?_
        refine ur_go rfl ?_
        exact ur_ret rfl rfl (hQ _ ⟨_, rfl⟩ )
  · refine ur_tabI rfl (by omega) (by rw [t1]; rfl) ?_
    refine ur_ldI rfl rfl ?_
    refine ur_if1 rfl (fun c133 => ?_) (fun c133 => ?_)
    · have t134 := ne_to c133
      refine ur_push rfl ?_
      refine ur_go rfl ?_
      exact ur_ret rfl rfl (hQ _ ⟨_, rfl⟩ )
    · have t135 := ne_no c133
      refine ur_ldI rfl rfl ?_
      refine ur_if1 rfl (fun c136 => ?_) (fun c136 => ?_)
      · have t137 := eq_to c136
        refine ur_push rfl ?_
        exact ur_ret rfl rfl (hQ _ ⟨_, rfl⟩ )
      · have t138 := eq_no c136
        refine ur_push rfl ?_
        refine ur_go rfl ?_
        exact ur_ret rfl rfl (hQ _ ⟨_, rfl⟩ )
  · refine ur_tabI rfl (by omega) (by rw [t1]; rfl) ?_
    refine ur_ldI rfl rfl ?_
    refine ur_if1 rfl (fun c139 => ?_) (fun c139 => ?_)
    · have t140 := ne_to c139
      refine ur_push rfl ?_
      refine ur_go rfl ?_
      exact ur_ret rfl rfl (hQ _ ⟨_, rfl⟩ )
    · have t141 := ne_no c139
      refine ur_ldI rfl rfl ?_
      refine ur_if1 rfl (fun c142 => ?_) (fun c142 => ?_)
      · have t143 := eq_to c142
        refine ur_push rfl ?_
        exact ur_ret rfl rfl (hQ _ ⟨_, rfl⟩ )
      · have t144 := eq_no c142
        refine ur_push rfl ?_
        refine ur_go rfl ?_
        exact ur_ret rfl rfl (hQ _ ⟨_, rfl⟩ )
  · refine ur_tabI rfl (by omega) (by rw [t1]; rfl) ?_
    refine ur_ldI rfl rfl ?_
    refine ur_if1 rfl (fun c145 => ?_) (fun c145 => ?_)
    · have t146 := ne_to c145
      refine ur_push rfl ?_
      refine ur_go rfl ?_
      exact ur_ret rfl rfl (hQ _ ⟨_, rfl⟩ )
    · have t147 := ne_no c145
      refine ur_ldI rfl rfl ?_
      refine ur_if1 rfl (fun c148 => ?_) (fun c148 => ?_)
      · have t149 := eq_to c148
        refine ur_push rfl ?_
        exact ur_ret rfl rfl (hQ _ ⟨_, rfl⟩ )
      · have t150 := eq_no c148
        refine ur_push rfl ?_
        refine ur_go rfl ?_
        exact ur_ret rfl rfl (hQ _ ⟨_, rfl⟩ )
  · refine ur_tabI rfl (by omega) (by rw [t1]; rfl) ?_
    refine ur_ldI rfl rfl ?_
    refine ur_ldI rfl rfl ?_
    have z151 := any_r a1
    have z152 := any_r a2
    refine ur_if2 rfl (fun c153 => ?_) (fun c153 => ?_)
    · have t154 := le_to c153
      refine ur_push rfl ?_
      exact ur_ret rfl rfl (hQ _ ⟨_, rfl⟩ )
    · have t155 := le_no c153
      refine ur_push rfl ?_
      refine ur_go rfl ?_
      exact ur_ret rfl rfl (hQ _ ⟨_, rfl⟩ )
  · refine ur_tabI rfl (by omega) (by rw [t1]; rfl) ?_
    refine ur_ldI rfl rfl ?_
    refine ur_ldI rfl rfl ?_
    have z156 := any_r a1
    have z157 := any_r a2
    refine ur_if2 rfl (fun c158 => ?_) (fun c158 => ?_)
    · have t159 := ne_to c158
      refine ur_push rfl ?_
      exact ur_ret rfl rfl (hQ _ ⟨_, rfl⟩ )
    · have t160 := ne_no c158
      refine ur_push rfl ?_
      refine ur_go rfl ?_
      exact ur_ret rfl rfl (hQ _ ⟨_, rfl⟩ )
  · refine ur_tabI rfl (by omega) (by rw [t1]; rfl) ?_
    refine ur_ldI rfl rfl ?_
    refine ur_ldI rfl rfl ?_
    have z161 := any_r a1
    have z162 := any_r a2
    refine ur_if2 rfl (fun c163 => ?_) (fun c163 => ?_)
    · have t164 := le_to c163
      refine ur_push rfl ?_
      exact ur_ret rfl rfl (hQ _ ⟨_, rfl⟩ )
    · have t165 := le_no c163
      refine ur_push rfl ?_
      refine ur_go rfl ?_
      exact ur_ret rfl rfl (hQ _ ⟨_, rfl⟩ )

set_option maxRecDepth 20000 in
set_option maxHeartbeats 4000000 in
theorem sf_X12_isUnder {d kc ks : Nat} {h0 : aH} {Q : Option aV → aH → Prop} (a0 : Int32) (a1 : Int32) (hQ : ∀ r, (∃ q, r = some (.inl (bi q))) → Q r h0) : uCall Mt (d + 1) 234 [(.inl a0), (.inl a1)] h0 kc ks Q := by
  have l_0 : ((0) : Int32).toInt = 0 := by decide
  have l_1 : ((1) : Int32).toInt = 1 := by decide
  have l_2 : ((2) : Int32).toInt = 2 := by decide
  have l_6 : ((6) : Int32).toInt = 6 := by decide
  have l_7 : ((7) : Int32).toInt = 7 := by decide
  refine uc_ink [some (.inl a0), some (.inl a1)] mt_234 (Nat.le_of_ble_eq_true rfl) rfl ?_
  refine ur_ldI rfl rfl ?_
  refine ur_if1 rfl (fun c1 => ?_) (fun c1 => ?_)
  · have t2 := eq_to c1
    refine ur_push rfl ?_
    refine ur_go rfl ?_
    exact ur_ret rfl rfl (hQ _ ⟨true, rfl⟩ )
  · have t3 := eq_no c1
    refine ur_ldI rfl rfl ?_
    refine ur_ldI rfl rfl ?_
    have z4 := any_r a0
    have z5 := any_r a1
    refine ur_if2 rfl (fun c6 => ?_) (fun c6 => ?_)
    · have t7 := eq_to c6
      refine ur_push rfl ?_
      refine ur_go rfl ?_
      exact ur_ret rfl rfl (hQ _ ⟨true, rfl⟩ )
    · have t8 := eq_no c6
      refine ur_ldI rfl rfl ?_
      refine ur_push rfl ?_
      refine ur_if2 rfl (fun c9 => ?_) (fun c9 => ?_)
      · have t10 := ne_to c9
        refine ur_ldI rfl rfl ?_
        refine ur_push rfl ?_
        refine ur_if2 rfl (fun c11 => ?_) (fun c11 => ?_)
        · have t12 := ne_to c11
          refine ur_push rfl ?_
          exact ur_ret rfl rfl (hQ _ ⟨false, rfl⟩ )
        · have t13 := ne_no c11
          refine ur_ldI rfl rfl ?_
          refine ur_push rfl ?_
          refine ur_if2 rfl (fun c14 => ?_) (fun c14 => ?_)
          · have t15 := ne_to c14
            refine ur_push rfl ?_
            exact ur_ret rfl rfl (hQ _ ⟨false, rfl⟩ )
          · have t16 := ne_no c14
            refine ur_push rfl ?_
            refine ur_go rfl ?_
            exact ur_ret rfl rfl (hQ _ ⟨true, rfl⟩ )
      · have t17 := ne_no c9
        refine ur_ldI rfl rfl ?_
        refine ur_push rfl ?_
        refine ur_if2 rfl (fun c18 => ?_) (fun c18 => ?_)
        · have t19 := eq_to c18
          refine ur_push rfl ?_
          refine ur_go rfl ?_
          exact ur_ret rfl rfl (hQ _ ⟨true, rfl⟩ )
        · have t20 := eq_no c18
          refine ur_ldI rfl rfl ?_
          refine ur_push rfl ?_
          refine ur_if2 rfl (fun c21 => ?_) (fun c21 => ?_)
          · have t22 := ne_to c21
            refine ur_push rfl ?_
            exact ur_ret rfl rfl (hQ _ ⟨false, rfl⟩ )
          · have t23 := ne_no c21
            exfalso
            omega

set_option maxRecDepth 20000 in
set_option maxHeartbeats 4000000 in
theorem sf_X12_isSided {d kc ks : Nat} {h0 : aH} {Q : Option aV → aH → Prop} (a0 : Int32) (hQ : ∀ r, (∃ q, r = some (.inl (bi q))) → Q r h0) : uCall Mt (d + 1) 236 [(.inl a0)] h0 kc ks Q := by
  have l_0 : ((0) : Int32).toInt = 0 := by decide
  have l_1 : ((1) : Int32).toInt = 1 := by decide
  have l_2 : ((2) : Int32).toInt = 2 := by decide
  have l_7 : ((7) : Int32).toInt = 7 := by decide
  refine uc_ink [some (.inl a0)] mt_236 (Nat.le_of_ble_eq_true rfl) rfl ?_
  refine ur_ldI rfl rfl ?_
  refine ur_push rfl ?_
  refine ur_if2 rfl (fun c1 => ?_) (fun c1 => ?_)
  · have t2 := eq_to c1
    refine ur_push rfl ?_
    refine ur_go rfl ?_
    exact ur_ret rfl rfl (hQ _ ⟨true, rfl⟩ )
  · have t3 := eq_no c1
    refine ur_ldI rfl rfl ?_
    refine ur_push rfl ?_
    refine ur_if2 rfl (fun c4 => ?_) (fun c4 => ?_)
    · have t5 := ne_to c4
      refine ur_push rfl ?_
      exact ur_ret rfl rfl (hQ _ ⟨false, rfl⟩ )
    · have t6 := ne_no c4
      refine ur_push rfl ?_
      refine ur_go rfl ?_
      exact ur_ret rfl rfl (hQ _ ⟨true, rfl⟩ )

set_option maxRecDepth 20000 in
set_option maxHeartbeats 4000000 in
theorem sf_X12_lodgeApart {d kc ks : Nat} {h0 : aH} {Q : Option aV → aH → Prop} (a0 : Int32) (b0 : -1 ≤ a0.toInt ∧ a0.toInt ≤ 149) (a1 : Int32) (hQ : ∀ r, (∃ x, r = some (.inl x)) → Q r h0) : uCall Mt (d + 3) 246 [(.inl a0), (.inl a1)] h0 kc ks Q := by
  have l_1 : ((1) : Int32).toInt = 1 := by decide
  have l_15 : ((15) : Int32).toInt = 15 := by decide
  have l_360 : ((360) : Int32).toInt = 360 := by decide
  refine uc_ink [some (.inl a0), some (.inl a1), none, none] mt_246 (Nat.le_of_ble_eq_true rfl) rfl ?_
  refine ur_push rfl ?_
  refine ur_svIk [some (.inl a0), some (.inl a1), some (.inl 360), none] rfl rfl ?_
  refine ur_push rfl ?_
  refine ur_ldI rfl rfl ?_
  refine ur_binV rfl (fun x1 e2 => ?_)
  have z3 := any_r a0
  have t4 := ti_mulR e2 l_15 (by omega) (by omega)
  refine ur_svIk [some (.inl a0), some (.inl a1), some (.inl 360), some (.inl x1)] rfl rfl ?_
  have L7 : ∀ (m8 : Nat) (x5 : Int32) (x6 : Int32) , ((-15 ≤ x6.toInt ∧ x6.toInt ≤ 2147483647)) → ((2147483648 - x6.toInt).toNat) < m8 → uRun oX12_lodgeApart (uCall Mt (d + 2)) Q 9 ([some (.inl a0), some (.inl a1), some (.inl x5), some (.inl x6)], [], h0, kc, ks) := by
    intro m8
    induction m8 with
    | zero => intro x5 x6 iv10 mm11; omega
    | succ m8 ih9 =>
      intro x5 x6 iv10 mm11
      refine ur_ldI rfl rfl ?_
      refine ur_push rfl ?_
      refine ur_ldI rfl rfl ?_
      refine ur_binV rfl (fun x12 e13 => ?_)
      have t14 := ti_mulR e13 l_15 (by omega) (by omega)
      refine ur_push rfl ?_
      refine ur_binV rfl (fun x15 e16 => ?_)
      have z17 := any_r x12
      have t18 := ti_add e16 (by omega) (by omega)
      have z19 := any_r x6
      have z20 := any_r x15
      refine ur_if2 rfl (fun c21 => ?_) (fun c21 => ?_)
      · have t22 := le_to c21
        refine ur_ldI rfl rfl ?_
        exact ur_ret rfl rfl (hQ _ ⟨_, rfl⟩ )
      · have t23 := le_no c21
        refine ur_ldI rfl rfl ?_
        refine ur_ldI rfl rfl ?_
        refine ur_inl rfl rfl (Nat.le_of_ble_eq_true rfl) (Nat.le_of_ble_eq_true rfl) (sf_X12_apartOf _ _ (fun w24 hr25 => ?_))
        obtain ⟨x26, rfl⟩ := hr25
        show uRun _ (uCall Mt _) _ 25 (_, [(.inl x26)], _, _, _)
        refine ur_ldI rfl rfl ?_
        have z27 := any_r x26
        have z28 := any_r x5
        refine ur_if2 rfl (fun c29 => ?_) (fun c29 => ?_)
        · have t30 := le_to c29
          refine ur_incV (fun z => [some (.inl a0), some (.inl a1), some (.inl x5), some (.inl z)]) rfl rfl (fun _ => rfl) (fun x31 e32 => ?_)
          have t33 := ti_add e32 (by omega) (by omega)
          refine ur_go rfl ?_
          have z34 := any_r x31
          exact ih9 x5 x31 (by omega) (by omega)
        · have t35 := le_no c29
          refine ur_ldI rfl rfl ?_
          refine ur_ldI rfl rfl ?_
          refine ur_inl rfl rfl (Nat.le_of_ble_eq_true rfl) (Nat.le_of_ble_eq_true rfl) (sf_X12_apartOf _ _ (fun w36 hr37 => ?_))
          obtain ⟨x38, rfl⟩ := hr37
          show uRun _ (uCall Mt _) _ 34 (_, [(.inl x38)], _, _, _)
          refine ur_svIk [some (.inl a0), some (.inl a1), some (.inl x38), some (.inl x6)] rfl rfl ?_
          refine ur_incV (fun z => [some (.inl a0), some (.inl a1), some (.inl x38), some (.inl z)]) rfl rfl (fun _ => rfl) (fun x39 e40 => ?_)
          have t41 := ti_add e40 (by omega) (by omega)
          refine ur_go rfl ?_
          have z42 := any_r x39
          exact ih9 x38 x39 (by omega) (by omega)
  have z43 := any_r x1
  exact L7 _ 360 x1 (by omega) (Nat.lt_succ_self _)

set_option maxRecDepth 20000 in
set_option maxHeartbeats 4000000 in
theorem sf_X12_isWest {d kc ks : Nat} {h0 : aH} {Q : Option aV → aH → Prop} (hO0 : OK h0) (a1 : Int32) (hQ : ∀ r, (∃ q, r = some (.inl (bi q))) → Q r h0) : uCall Mt (d + 1) 247 [(.inr (.inr (some 69))), (.inl a1)] h0 kc ks Q := by
  have l_0 : ((0) : Int32).toInt = 0 := by decide
  have l_1 : ((1) : Int32).toInt = 1 := by decide
  have l_180 : ((180) : Int32).toInt = 180 := by decide
  have l_360 : ((360) : Int32).toInt = 360 := by decide
  refine uc_ink [some (.inr (.inr (some 69))), some (.inl a1)] mt_247 (Nat.le_of_ble_eq_true rfl) rfl ?_
  refine ur_ldA rfl rfl ?_
  obtain ⟨fs1, hc2⟩ := hO0.mod
  obtain ⟨f3, p4⟩ := mf_15 hO0 hc2
  refine ur_get rfl hc2 p4 ?_
  refine ur_ldI rfl rfl ?_
  refine ur_push rfl ?_
  refine ur_divV rfl (by decide) (fun x5 e6 => ?_)
  have z7 := any_r a1
  have t8 : 0 ≤ a1.toInt → x5.toInt = a1.toInt % 360 := fun q => ti_rem e6 l_360 (by decide) q
  refine ur_binV rfl (fun x9 e10 => ?_)
  have z11 := any_r f3
  have z12 := any_r x5
  refine ur_push rfl ?_
  refine ur_binV rfl (fun x13 e14 => ?_)
  have z15 := any_r x9
  refine ur_push rfl ?_
  refine ur_divV rfl (by decide) (fun x16 e17 => ?_)
  have z18 := any_r x13
  have t19 : 0 ≤ x13.toInt → x16.toInt = x13.toInt % 360 := fun q => ti_rem e17 l_360 (by decide) q
  refine ur_push rfl ?_
  refine ur_if2 rfl (fun c20 => ?_) (fun c20 => ?_)
  · have t21 := le_to c20
    refine ur_push rfl ?_
    exact ur_ret rfl rfl (hQ _ ⟨false, rfl⟩ )
  · have t22 := le_no c20
    refine ur_push rfl ?_
    refine ur_go rfl ?_
    exact ur_ret rfl rfl (hQ _ ⟨true, rfl⟩ )

set_option maxRecDepth 20000 in
set_option maxHeartbeats 4000000 in
theorem sf_X12_worthOf {d kc ks : Nat} {h0 : aH} {Q : Option aV → aH → Prop} (hO0 : OK h0) (a1 : Int32) (hQ : ∀ r, (∃ x, r = some (.inl x)) → Q r h0) : uCall Mt (d + 1) 263 [(.inr (.inr (some 69))), (.inl a1)] h0 kc ks Q := by
  have l_0 : ((0) : Int32).toInt = 0 := by decide
  have l_1 : ((1) : Int32).toInt = 1 := by decide
  have l_3 : ((3) : Int32).toInt = 3 := by decide
  have l_5 : ((5) : Int32).toInt = 5 := by decide
  refine uc_ink [some (.inr (.inr (some 69))), some (.inl a1), none, none] mt_263 (Nat.le_of_ble_eq_true rfl) rfl ?_
  refine ur_push rfl ?_
  refine ur_svIk [some (.inr (.inr (some 69))), some (.inl a1), some (.inl 0), none] rfl rfl ?_
  refine ur_push rfl ?_
  refine ur_svIk [some (.inr (.inr (some 69))), some (.inl a1), some (.inl 0), some (.inl 0)] rfl rfl ?_
  have L3 : ∀ (m4 : Nat) (x1 : Int32) (x2 : Int32) , ((0 ≤ x2.toInt ∧ x2.toInt ≤ 2147483647)) → ((2147483648 - x2.toInt).toNat) < m4 → uRun oX12_worthOf (uCall Mt (d + 0)) Q 4 ([some (.inr (.inr (some 69))), some (.inl a1), some (.inl x1), some (.inl x2)], [], h0, kc, ks) := by
    intro m4
    induction m4 with
    | zero => intro x1 x2 iv6 mm7; omega
    | succ m4 ih5 =>
      intro x1 x2 iv6 mm7
      refine ur_ldI rfl rfl ?_
      refine ur_ldA rfl rfl ?_
      obtain ⟨fs8, hc9⟩ := hO0.mod
      obtain ⟨f10, p11, t12⟩ := mf_38 hO0 hc9
      refine ur_get rfl hc9 p11 ?_
      have z13 := any_r x2
      have z14 := any_r f10
      refine ur_if2 rfl (fun c15 => ?_) (fun c15 => ?_)
      · have t16 := le_to c15
        refine ur_push rfl ?_
        refine ur_svIk [some (.inr (.inr (some 69))), some (.inl a1), some (.inl x1), some (.inl 0)] rfl rfl ?_
        have L19 : ∀ (m20 : Nat) (x17 : Int32) (x18 : Int32) , ((0 ≤ x18.toInt ∧ x18.toInt ≤ 2147483647)) → ((2147483648 - x18.toInt).toNat) < m20 → uRun oX12_worthOf (uCall Mt (d + 0)) Q 44 ([some (.inr (.inr (some 69))), some (.inl a1), some (.inl x17), some (.inl x18)], [], h0, kc, ks) := by
          intro m20
          induction m20 with
          | zero => intro x17 x18 iv22 mm23; omega
          | succ m20 ih21 =>
            intro x17 x18 iv22 mm23
            refine ur_ldI rfl rfl ?_
            refine ur_ldA rfl rfl ?_
            obtain ⟨f24, p25, t26⟩ := mf_4 hO0 hc9
            refine ur_get rfl hc9 p25 ?_
            have z27 := any_r x18
            have z28 := any_r f24
            refine ur_if2 rfl (fun c29 => ?_) (fun c29 => ?_)
            · have t30 := le_to c29
              refine ur_ldI rfl rfl ?_
              exact ur_ret rfl rfl (hQ _ ⟨_, rfl⟩ )
            · have t31 := le_no c29
              refine ur_ldI rfl rfl ?_
              refine ur_ldI rfl rfl ?_
              refine ur_binV rfl (fun x32 e33 => ?_)
              have z34 := any_r a1
              refine ur_push rfl ?_
              refine ur_binV rfl (fun x35 e36 => ?_)
              have t37 := and_1 e36
              refine ur_push rfl ?_
              refine ur_if2 rfl (fun c38 => ?_) (fun c38 => ?_)
              · have t39 := ne_to c38
                refine ur_incV (fun z => [some (.inr (.inr (some 69))), some (.inl a1), some (.inl x17), some (.inl z)]) rfl rfl (fun _ => rfl) (fun x40 e41 => ?_)
                have t42 := ti_add e41 (by omega) (by omega)
                refine ur_go rfl ?_
                have z43 := any_r x40
                exact ih21 x17 x40 (by omega) (by omega)
              · have t44 := ne_no c38
                refine ur_ldI rfl rfl ?_
                refine ur_push rfl ?_
                refine ur_ldA rfl rfl ?_
                refine ur_get rfl hc9 (mf_56 hO0 hc9) ?_
                refine ur_ldI rfl rfl ?_
                obtain ⟨xs46, hc45, hn47, he48⟩ := hO0.int (hO0.fix 106 (by decide) rfl)
                refine ur_aldV rfl hc45 hn47 (by omega) (fun x49 hx50 => ?_)
                refine ur_binV rfl (fun x51 e52 => ?_)
                have z53 := any_r x49
                refine ur_binV rfl (fun x54 e55 => ?_)
                have z56 := any_r x17
                have z57 := any_r x51
                refine ur_svIk [some (.inr (.inr (some 69))), some (.inl a1), some (.inl x54), some (.inl x18)] rfl rfl ?_
                refine ur_incV (fun z => [some (.inr (.inr (some 69))), some (.inl a1), some (.inl x54), some (.inl z)]) rfl rfl (fun _ => rfl) (fun x58 e59 => ?_)
                have t60 := ti_add e59 (by omega) (by omega)
                refine ur_go rfl ?_
                have z61 := any_r x58
                exact ih21 x54 x58 (by omega) (by omega)
        exact L19 _ x1 0 (by omega) (Nat.lt_succ_self _)
      · have t62 := le_no c15
        refine ur_ldA rfl rfl ?_
        refine ur_get rfl hc9 (mf_39 hO0 hc9) ?_
        refine ur_ldI rfl rfl ?_
        obtain ⟨xs64, hc63, hn65, he66⟩ := hO0.int (hO0.fix 96 (by decide) rfl)
        refine ur_aldV rfl hc63 hn65 (by omega) (fun x67 hx68 => ?_)
        have t69 : 0 ≤ x67.toInt ∧ x67.toInt ≤ 7 := he66 _ _ hx68
        refine ur_push rfl ?_
        refine ur_if2 rfl (fun c70 => ?_) (fun c70 => ?_)
        · have t71 := eq_to c70
          refine ur_incV (fun z => [some (.inr (.inr (some 69))), some (.inl a1), some (.inl x1), some (.inl z)]) rfl rfl (fun _ => rfl) (fun x72 e73 => ?_)
          have t74 := ti_add e73 (by omega) (by omega)
          refine ur_go rfl ?_
          have z75 := any_r x72
          exact ih5 x1 x72 (by omega) (by omega)
        · have t76 := eq_no c70
          refine ur_ldA rfl rfl ?_
          refine ur_get rfl hc9 (mf_55 hO0 hc9) ?_
          refine ur_ldI rfl rfl ?_
          obtain ⟨xs78, hc77, hn79, he80⟩ := hO0.int (hO0.fix 105 (by decide) rfl)
          refine ur_aldV rfl hc77 hn79 (by omega) (fun x81 hx82 => ?_)
          refine ur_ldI rfl rfl ?_
          refine ur_binV rfl (fun x83 e84 => ?_)
          refine ur_if1 rfl (fun c85 => ?_) (fun c85 => ?_)
          · have t86 := eq_to c85
            refine ur_incV (fun z => [some (.inr (.inr (some 69))), some (.inl a1), some (.inl x1), some (.inl z)]) rfl rfl (fun _ => rfl) (fun x87 e88 => ?_)
            have t89 := ti_add e88 (by omega) (by omega)
            refine ur_go rfl ?_
            have z90 := any_r x87
            exact ih5 x1 x87 (by omega) (by omega)
          · have t91 := eq_no c85
            refine ur_incV (fun z => [some (.inr (.inr (some 69))), some (.inl a1), some (.inl z), some (.inl x2)]) rfl rfl (fun _ => rfl) (fun x92 e93 => ?_)
            have z94 := any_r x1
            refine ur_incV (fun z => [some (.inr (.inr (some 69))), some (.inl a1), some (.inl x92), some (.inl z)]) rfl rfl (fun _ => rfl) (fun x95 e96 => ?_)
            have t97 := ti_add e96 (by omega) (by omega)
            refine ur_go rfl ?_
            have z98 := any_r x95
            exact ih5 x92 x95 (by omega) (by omega)
  exact L3 _ 0 0 (by omega) (Nat.lt_succ_self _)

set_option maxRecDepth 20000 in
set_option maxHeartbeats 4000000 in
theorem sf_X12_turned {d kc ks : Nat} {h0 : aH} {Q : Option aV → aH → Prop} (a0 : Int32) (a1 : Int32) (a2 : Int32) (b2 : 1 ≤ a2.toInt ∧ a2.toInt ≤ 99) (hQ : ∀ r, (∃ x, r = some (.inl x)) → Q r h0) : uCall Mt (d + 2) 203 [(.inl a0), (.inl a1), (.inl a2)] h0 kc ks Q := by
  have l_90 : ((90) : Int32).toInt = 90 := by decide
  refine uc_ink [some (.inl a0), some (.inl a1), some (.inl a2)] mt_203 (Nat.le_of_ble_eq_true rfl) rfl ?_
  refine ur_ldI rfl rfl ?_
  refine ur_push rfl ?_
  refine ur_binV rfl (fun x1 e2 => ?_)
  have z3 := any_r a0
  refine ur_ldI rfl rfl ?_
  refine ur_binV rfl (fun x4 e5 => ?_)
  have z6 := any_r x1
  have z7 := any_r a1
  refine ur_ldI rfl rfl ?_
  refine ur_inl rfl rfl (Nat.le_of_ble_eq_true rfl) (Nat.le_of_ble_eq_true rfl) (sf_X12_sizeOf _ (fun w8 hr9 => ?_))
  obtain ⟨x10, rfl, t11⟩ := hr9
  show uRun _ (uCall Mt _) _ 10 (_, [(.inl x10), (.inl x4)], _, _, _)
  refine ur_ldI rfl rfl ?_
  refine ur_binV rfl (fun x12 e13 => ?_)
  have z14 := any_r x10
  have z15 := any_r a2
  have t16 := ti_addw e13
  refine ur_divV rfl (nz_of (by omega)) (fun x17 e18 => ?_)
  have z19 := any_r x4
  have z20 := any_r x12
  exact ur_ret rfl rfl (hQ _ ⟨_, rfl⟩ )

set_option maxRecDepth 20000 in
set_option maxHeartbeats 4000000 in
theorem sf_X12_nodeFor {d kc ks : Nat} {h0 : aH} {Q : Option aV → aH → Prop} (hO0 : OK h0) (a1 : Int32) (a2 : Int32) (b2 : 1 ≤ a2.toInt ∧ a2.toInt ≤ 99) (a3 : Int32) (a4 : Int32) (hQ : ∀ r, (∃ x, r = some (.inl x)) → Q r h0) : uCall Mt (d + 3) 269 [(.inr (.inr (some 69))), (.inl a1), (.inl a2), (.inl a3), (.inl a4)] h0 kc ks Q := by
  have l_m1 : ((-1) : Int32).toInt = -1 := by decide
  have l_0 : ((0) : Int32).toInt = 0 := by decide
  have l_1 : ((1) : Int32).toInt = 1 := by decide
  have l_120 : ((120) : Int32).toInt = 120 := by decide
  have l_360 : ((360) : Int32).toInt = 360 := by decide
  have l_720 : ((720) : Int32).toInt = 720 := by decide
  refine uc_ink [some (.inr (.inr (some 69))), some (.inl a1), some (.inl a2), some (.inl a3), some (.inl a4), none, none, none, none] mt_269 (Nat.le_of_ble_eq_true rfl) rfl ?_
  refine ur_ldA rfl rfl ?_
  obtain ⟨fs1, hc2⟩ := hO0.mod
  refine ur_get rfl hc2 (mf_58 hO0 hc2) ?_
  refine ur_push rfl ?_
  obtain ⟨xs4, hc3, hn5, he6⟩ := hO0.int (hO0.fix 107 (by decide) rfl)
  refine ur_aldV rfl hc3 hn5 (by omega) (fun x7 hx8 => ?_)
  refine ur_ldI rfl rfl ?_
  refine ur_binV rfl (fun x9 e10 => ?_)
  have z11 := any_r x7
  have z12 := any_r a1
  refine ur_svIk [some (.inr (.inr (some 69))), some (.inl a1), some (.inl a2), some (.inl a3), some (.inl a4), some (.inl x9), none, none, none] rfl rfl ?_
  refine ur_ldI rfl rfl ?_
  refine ur_inl rfl rfl (Nat.le_of_ble_eq_true rfl) (Nat.le_of_ble_eq_true rfl) (sf_X12_sizeOf _ (fun w13 hr14 => ?_))
  obtain ⟨x15, rfl, t16⟩ := hr14
  show uRun _ (uCall Mt _) _ 15 (_, [(.inl x15)], _, _, _)
  refine ur_push rfl ?_
  refine ur_if2 rfl (fun c17 => ?_) (fun c17 => ?_)
  · have t18 := le_to c17
    refine ur_ldA rfl rfl ?_
    refine ur_get rfl hc2 (mf_59 hO0 hc2) ?_
    refine ur_push rfl ?_
    obtain ⟨xs20, hc19, hn21, he22⟩ := hO0.int (hO0.fix 108 (by decide) rfl)
    refine ur_aldV rfl hc19 hn21 (by omega) (fun x23 hx24 => ?_)
    refine ur_ldI rfl rfl ?_
    refine ur_ldI rfl rfl ?_
    refine ur_ldI rfl rfl ?_
    refine ur_inl rfl rfl (Nat.le_of_ble_eq_true rfl) (Nat.le_of_ble_eq_true rfl) (sf_X12_turned _ _ _ (by show 1 ≤ a2.toInt ∧ a2.toInt ≤ 99; omega) (fun w25 hr26 => ?_))
    obtain ⟨x27, rfl⟩ := hr26
    show uRun _ (uCall Mt _) _ 35 (_, [(.inl x27), (.inl x23)], _, _, _)
    refine ur_binV rfl (fun x28 e29 => ?_)
    have z30 := any_r x23
    have z31 := any_r x27
    refine ur_push rfl ?_
    refine ur_binV rfl (fun x32 e33 => ?_)
    have z34 := any_r x28
    refine ur_push rfl ?_
    refine ur_divV rfl (by decide) (fun x35 e36 => ?_)
    have z37 := any_r x32
    have t38 : 0 ≤ x32.toInt → x35.toInt = x32.toInt % 360 := fun q => ti_rem e36 l_360 (by decide) q
    refine ur_svIk [some (.inr (.inr (some 69))), some (.inl a1), some (.inl a2), some (.inl a3), some (.inl a4), some (.inl x9), some (.inl x35), none, none] rfl rfl ?_
    refine ur_push rfl ?_
    refine ur_svIk [some (.inr (.inr (some 69))), some (.inl a1), some (.inl a2), some (.inl a3), some (.inl a4), some (.inl x9), some (.inl x35), some (.inl 1), none] rfl rfl ?_
    have L41 : ∀ (m42 : Nat) (x39 : Int32) (u40 : Option aV) , ((1 ≤ x39.toInt ∧ x39.toInt ≤ 2147483647)) → ((2147483648 - x39.toInt).toNat) < m42 → uRun oX12_nodeFor (uCall Mt (d + 2)) Q 49 ([some (.inr (.inr (some 69))), some (.inl a1), some (.inl a2), some (.inl a3), some (.inl a4), some (.inl x9), some (.inl x35), some (.inl x39), u40], [], h0, kc, ks) := by
      intro m42
      induction m42 with
      | zero => intro x39 u40 iv44 mm45; omega
      | succ m42 ih43 =>
        intro x39 u40 iv44 mm45
        refine ur_ldI rfl rfl ?_
        refine ur_ldA rfl rfl ?_
        obtain ⟨f46, p47, t48⟩ := mf_57 hO0 hc2
        refine ur_get rfl hc2 p47 ?_
        have z49 := any_r x39
        have z50 := any_r f46
        refine ur_if2 rfl (fun c51 => ?_) (fun c51 => ?_)
        · have t52 := le_to c51
          refine ur_ldI rfl rfl ?_
          exact ur_ret rfl rfl (hQ _ ⟨_, rfl⟩ )
        · have t53 := le_no c51
          refine ur_ldA rfl rfl ?_
          refine ur_get rfl hc2 (mf_58 hO0 hc2) ?_
          refine ur_ldI rfl rfl ?_
          refine ur_aldV rfl hc3 hn5 (by omega) (fun x54 hx55 => ?_)
          refine ur_ldI rfl rfl ?_
          refine ur_binV rfl (fun x56 e57 => ?_)
          have z58 := any_r x54
          refine ur_svIk [some (.inr (.inr (some 69))), some (.inl a1), some (.inl a2), some (.inl a3), some (.inl a4), some (.inl x9), some (.inl x35), some (.inl x39), some (.inl x56)] rfl rfl ?_
          refine ur_ldI rfl rfl ?_
          refine ur_inl rfl rfl (Nat.le_of_ble_eq_true rfl) (Nat.le_of_ble_eq_true rfl) (sf_X12_sizeOf _ (fun w59 hr60 => ?_))
          obtain ⟨x61, rfl, t62⟩ := hr60
          show uRun _ (uCall Mt _) _ 74 (_, [(.inl x61)], _, _, _)
          refine ur_push rfl ?_
          refine ur_if2 rfl (fun c63 => ?_) (fun c63 => ?_)
          · have t64 := lt_to c63
            refine ur_push rfl ?_
            exact ur_ret rfl rfl (hQ _ ⟨_, rfl⟩ )
          · have t65 := lt_no c63
            refine ur_ldI rfl rfl ?_
            refine ur_ldI rfl rfl ?_
            refine ur_ldI rfl rfl ?_
            refine ur_ldI rfl rfl ?_
            refine ur_inl rfl rfl (Nat.le_of_ble_eq_true rfl) (Nat.le_of_ble_eq_true rfl) (sf_X12_turned _ _ _ (by show 1 ≤ a2.toInt ∧ a2.toInt ≤ 99; omega) (fun w66 hr67 => ?_))
            obtain ⟨x68, rfl⟩ := hr67
            show uRun _ (uCall Mt _) _ 88 (_, [(.inl x68), (.inl x35)], _, _, _)
            refine ur_binV rfl (fun x69 e70 => ?_)
            have z71 := any_r x35
            have z72 := any_r x68
            refine ur_push rfl ?_
            refine ur_binV rfl (fun x73 e74 => ?_)
            have z75 := any_r x69
            refine ur_push rfl ?_
            refine ur_divV rfl (by decide) (fun x76 e77 => ?_)
            have z78 := any_r x73
            have t79 : 0 ≤ x73.toInt → x76.toInt = x73.toInt % 360 := fun q => ti_rem e77 l_360 (by decide) q
            refine ur_ldA rfl rfl ?_
            refine ur_get rfl hc2 (mf_59 hO0 hc2) ?_
            refine ur_ldI rfl rfl ?_
            refine ur_aldV rfl hc19 hn21 (by omega) (fun x80 hx81 => ?_)
            refine ur_inl rfl rfl (Nat.le_of_ble_eq_true rfl) (Nat.le_of_ble_eq_true rfl) (sf_X12_apartOf _ _ (fun w82 hr83 => ?_))
            obtain ⟨x84, rfl⟩ := hr83
            show uRun _ (uCall Mt _) _ 107 (_, [(.inl x84)], _, _, _)
            refine ur_ldI rfl rfl ?_
            have z85 := any_r x84
            have z86 := any_r a4
            refine ur_if2 rfl (fun c87 => ?_) (fun c87 => ?_)
            · have t88 := le_to c87
              refine ur_incV (fun z => [some (.inr (.inr (some 69))), some (.inl a1), some (.inl a2), some (.inl a3), some (.inl a4), some (.inl x9), some (.inl x35), some (.inl z), some (.inl x56)]) rfl rfl (fun _ => rfl) (fun x89 e90 => ?_)
              have t91 := ti_add e90 (by omega) (by omega)
              refine ur_go rfl ?_
              have z92 := any_r x89
              exact ih43 x89 _ (by omega) (by omega)
            · have t93 := le_no c87
              refine ur_push rfl ?_
              exact ur_ret rfl rfl (hQ _ ⟨_, rfl⟩ )
    exact L41 _ 1 (none) (by omega) (Nat.lt_succ_self _)
  · have t94 := le_no c17
    refine ur_push rfl ?_
    exact ur_ret rfl rfl (hQ _ ⟨_, rfl⟩ )

set_option maxRecDepth 20000 in
set_option maxHeartbeats 4000000 in
theorem sf_X12_paths {d kc ks : Nat} {h0 : aH} {Q : Option aV → aH → Prop} (hO0 : OK h0) (a1 : Int32) (a2 : Int32) (a3 : Int32) (hQ : ∀ r, (∃ x, r = some (.inl x)) → Q r h0) : uCall Mt (d + 4) 270 [(.inr (.inr (some 69))), (.inl a1), (.inl a2), (.inl a3)] h0 kc ks Q := by
  have l_m5 : ((-5) : Int32).toInt = -5 := by decide
  have l_m2 : ((-2) : Int32).toInt = -2 := by decide
  have l_m1 : ((-1) : Int32).toInt = -1 := by decide
  have l_0 : ((0) : Int32).toInt = 0 := by decide
  have l_1 : ((1) : Int32).toInt = 1 := by decide
  have l_2 : ((2) : Int32).toInt = 2 := by decide
  have l_3 : ((3) : Int32).toInt = 3 := by decide
  have l_4 : ((4) : Int32).toInt = 4 := by decide
  have l_5 : ((5) : Int32).toInt = 5 := by decide
  have l_10 : ((10) : Int32).toInt = 10 := by decide
  have l_60 : ((60) : Int32).toInt = 60 := by decide
  have l_90 : ((90) : Int32).toInt = 90 := by decide
  have l_100 : ((100) : Int32).toInt = 100 := by decide
  have l_999999 : ((999999) : Int32).toInt = 999999 := by decide
  refine uc_ink [some (.inr (.inr (some 69))), some (.inl a1), some (.inl a2), some (.inl a3), none, none, none, none, none] mt_270 (Nat.le_of_ble_eq_true rfl) rfl ?_
  refine ur_ldI rfl rfl ?_
  refine ur_callv rfl rfl (Nat.le_of_ble_eq_true rfl) (Nat.le_of_ble_eq_true rfl) rfl (sq_isDay _ _) ?_
  refine ur_eqB rfl (fun c3 => ?_) (fun c3 => ?_)
  · have t4 := wi_noL c3 l_0 l_999999
    refine ur_push rfl ?_
    exact ur_ret rfl rfl (hQ _ ⟨_, rfl⟩ )
  · have t5 := wi_toL c3 l_0 l_999999
    refine ur_ldI rfl rfl ?_
    refine ur_push rfl ?_
    refine ur_push rfl ?_
    refine ur_callv rfl rfl (Nat.le_of_ble_eq_true rfl) (Nat.le_of_ble_eq_true rfl) rfl (sp_in _ _ _ _ _) ?_
    refine ur_eqB rfl (fun c8 => ?_) (fun c8 => ?_)
    · have t9 := wi_noL c8 l_0 l_90
      refine ur_push rfl ?_
      exact ur_ret rfl rfl (hQ _ ⟨_, rfl⟩ )
    · have t10 := wi_toL c8 l_0 l_90
      refine ur_ldI rfl rfl ?_
      refine ur_push rfl ?_
      refine ur_push rfl ?_
      refine ur_callv rfl rfl (Nat.le_of_ble_eq_true rfl) (Nat.le_of_ble_eq_true rfl) rfl (sp_in _ _ _ _ _) ?_
      refine ur_neB rfl (fun c13 => ?_) (fun c13 => ?_)
      · have t14 := wi_toL c13 l_0 l_4
        refine ur_ldA rfl rfl ?_
        obtain ⟨fs15, hc16⟩ := hO0.mod
        obtain ⟨f17, p18, t19⟩ := mf_57 hO0 hc16
        refine ur_get rfl hc16 p18 ?_
        refine ur_push rfl ?_
        refine ur_if2 rfl (fun c20 => ?_) (fun c20 => ?_)
        · have t21 := le_to c20
          refine ur_push rfl ?_
          refine ur_svIk [some (.inr (.inr (some 69))), some (.inl a1), some (.inl a2), some (.inl a3), some (.inl 0), none, none, none, none] rfl rfl ?_
          refine ur_ldI rfl rfl ?_
          refine ur_push rfl ?_
          refine ur_binV rfl (fun x22 e23 => ?_)
          have z24 := any_r a1
          have t25 := ti_sub e23 (by omega) (by omega)
          refine ur_svIk [some (.inr (.inr (some 69))), some (.inl a1), some (.inl a2), some (.inl a3), some (.inl 0), some (.inl x22), none, none, none] rfl rfl ?_
          have L31 : ∀ (m32 : Nat) (x26 : Int32) (x27 : Int32) (u28 : Option aV) (u29 : Option aV) (u30 : Option aV) , ((-60 ≤ x27.toInt ∧ x27.toInt ≤ 2147483647)) → ((2147483648 - x27.toInt).toNat) < m32 → uRun oX12_paths (uCall Mt (d + 3)) Q 48 ([some (.inr (.inr (some 69))), some (.inl a1), some (.inl a2), some (.inl a3), some (.inl x26), some (.inl x27), u28, u29, u30], [], h0, kc, ks) := by
            intro m32
            induction m32 with
            | zero => intro x26 x27 u28 u29 u30 iv34 mm35; omega
            | succ m32 ih33 =>
              intro x26 x27 u28 u29 u30 iv34 mm35
              refine ur_ldI rfl rfl ?_
              refine ur_ldI rfl rfl ?_
              refine ur_push rfl ?_
              refine ur_binV rfl (fun x36 e37 => ?_)
              have t38 := ti_add e37 (by omega) (by omega)
              have z39 := any_r x27
              have z40 := any_r x36
              refine ur_if2 rfl (fun c41 => ?_) (fun c41 => ?_)
              · have t42 := lt_to c41
                refine ur_ldI rfl rfl ?_
                refine ur_if1 rfl (fun c43 => ?_) (fun c43 => ?_)
                · have t44 := ne_to c43
                  refine ur_push rfl ?_
                  exact ur_ret rfl rfl (hQ _ ⟨_, rfl⟩ )
                · have t45 := ne_no c43
                  refine ur_ldI rfl rfl ?_
                  refine ur_go rfl ?_
                  exact ur_ret rfl rfl (hQ _ ⟨_, rfl⟩ )
              · have t46 := lt_no c41
                refine ur_ldI rfl rfl ?_
                refine ur_callv rfl rfl (Nat.le_of_ble_eq_true rfl) (Nat.le_of_ble_eq_true rfl) rfl (sq_isDay _ _) ?_
                refine ur_neB rfl (fun c49 => ?_) (fun c49 => ?_)
                · have t50 := wi_toL c49 l_0 l_999999
                  refine ur_push rfl ?_
                  refine ur_svIk [some (.inr (.inr (some 69))), some (.inl a1), some (.inl a2), some (.inl a3), some (.inl x26), some (.inl x27), some (.inl 5), u29, u30] rfl rfl ?_
                  have L55 : ∀ (m56 : Nat) (x51 : Int32) (x52 : Int32) (u53 : Option aV) (u54 : Option aV) , ((5 ≤ x52.toInt ∧ x52.toInt ≤ 2147483647)) → ((2147483648 - x52.toInt).toNat) < m56 → uRun oX12_paths (uCall Mt (d + 3)) Q 71 ([some (.inr (.inr (some 69))), some (.inl a1), some (.inl a2), some (.inl a3), some (.inl x51), some (.inl x27), some (.inl x52), u53, u54], [], h0, kc, ks) := by
                    intro m56
                    induction m56 with
                    | zero => intro x51 x52 u53 u54 iv58 mm59; omega
                    | succ m56 ih57 =>
                      intro x51 x52 u53 u54 iv58 mm59
                      refine ur_ldI rfl rfl ?_
                      refine ur_push rfl ?_
                      refine ur_if2 rfl (fun c60 => ?_) (fun c60 => ?_)
                      · have t61 := le_to c60
                        refine ur_incV (fun z => [some (.inr (.inr (some 69))), some (.inl a1), some (.inl a2), some (.inl a3), some (.inl x51), some (.inl z), some (.inl x52), u53, u54]) rfl rfl (fun _ => rfl) (fun x62 e63 => ?_)
                        have t64 := ti_add e63 (by omega) (by omega)
                        refine ur_go rfl ?_
                        have z65 := any_r x62
                        exact ih33 x51 x62 _ _ _ (by omega) (by omega)
                      · have t66 := le_no c60
                        refine ur_push rfl ?_
                        refine ur_svIk [some (.inr (.inr (some 69))), some (.inl a1), some (.inl a2), some (.inl a3), some (.inl x51), some (.inl x27), some (.inl x52), some (.inl 1), u54] rfl rfl ?_
                        have L70 : ∀ (m71 : Nat) (x67 : Int32) (x68 : Int32) (u69 : Option aV) , ((-2147483648 ≤ x68.toInt ∧ x68.toInt ≤ 1)) → ((x68.toInt + 2147483649).toNat) < m71 → uRun oX12_paths (uCall Mt (d + 3)) Q 81 ([some (.inr (.inr (some 69))), some (.inl a1), some (.inl a2), some (.inl a3), some (.inl x67), some (.inl x27), some (.inl x52), some (.inl x68), u69], [], h0, kc, ks) := by
                          intro m71
                          induction m71 with
                          | zero => intro x67 x68 u69 iv73 mm74; omega
                          | succ m71 ih72 =>
                            intro x67 x68 u69 iv73 mm74
                            refine ur_ldI rfl rfl ?_
                            refine ur_push rfl ?_
                            refine ur_if2 rfl (fun c75 => ?_) (fun c75 => ?_)
                            · have t76 := lt_to c75
                              refine ur_incV (fun z => [some (.inr (.inr (some 69))), some (.inl a1), some (.inl a2), some (.inl a3), some (.inl x67), some (.inl x27), some (.inl z), some (.inl x68), u69]) rfl rfl (fun _ => rfl) (fun x77 e78 => ?_)
                              have z79 := any_r x52
                              have t80 := ti_add e78 (by omega) (by omega)
                              refine ur_go rfl ?_
                              have z81 := any_r x77
                              exact ih57 x67 x77 _ _ (by omega) (by omega)
                            · have t82 := lt_no c75
                              refine ur_ldA rfl rfl ?_
                              refine ur_ldI rfl rfl ?_
                              refine ur_ldI rfl rfl ?_
                              refine ur_ldI rfl rfl ?_
                              refine ur_ldI rfl rfl ?_
                              refine ur_inl rfl (rcv_of hc16) (Nat.le_of_ble_eq_true rfl) (Nat.le_of_ble_eq_true rfl) (sf_X12_nodeFor hO0 _ _ (by show 1 ≤ x52.toInt ∧ x52.toInt ≤ 99; omega) _ _ (fun w83 hr84 => ?_))
                              obtain ⟨x85, rfl⟩ := hr84
                              show uRun _ (uCall Mt _) _ 98 (_, [(.inl x85)], _, _, _)
                              refine ur_svIk [some (.inr (.inr (some 69))), some (.inl a1), some (.inl a2), some (.inl a3), some (.inl x67), some (.inl x27), some (.inl x52), some (.inl x68), some (.inl x85)] rfl rfl ?_
                              refine ur_ldI rfl rfl ?_
                              refine ur_if1 rfl (fun c86 => ?_) (fun c86 => ?_)
                              · have t87 := le_to c86
                                refine ur_ldI rfl rfl ?_
                                refine ur_if1 rfl (fun c88 => ?_) (fun c88 => ?_)
                                · have t89 := le_to c88
                                  refine ur_incV (fun z => [some (.inr (.inr (some 69))), some (.inl a1), some (.inl a2), some (.inl a3), some (.inl z), some (.inl x27), some (.inl x52), some (.inl x68), some (.inl x85)]) rfl rfl (fun _ => rfl) (fun x90 e91 => ?_)
                                  have z92 := any_r x67
                                  refine ur_incV (fun z => [some (.inr (.inr (some 69))), some (.inl a1), some (.inl a2), some (.inl a3), some (.inl x90), some (.inl x27), some (.inl x52), some (.inl z), some (.inl x85)]) rfl rfl (fun _ => rfl) (fun x93 e94 => ?_)
                                  have z95 := any_r x68
                                  have t96 := ti_add e94 (by omega) (by omega)
                                  refine ur_go rfl ?_
                                  have z97 := any_r x93
                                  exact ih72 x90 x93 _ (by omega) (by omega)
                                · have t98 := le_no c88
                                  refine ur_ldI rfl rfl ?_
                                  refine ur_push rfl ?_
                                  refine ur_if2 rfl (fun c99 => ?_) (fun c99 => ?_)
                                  · have t100 := ne_to c99
                                    refine ur_ldI rfl rfl ?_
                                    refine ur_push rfl ?_
                                    refine ur_if2 rfl (fun c101 => ?_) (fun c101 => ?_)
                                    · have t102 := ne_to c101
                                      refine ur_ldI rfl rfl ?_
                                      refine ur_push rfl ?_
                                      refine ur_if2 rfl (fun c103 => ?_) (fun c103 => ?_)
                                      · have t104 := ne_to c103
                                        refine ur_ldI rfl rfl ?_
                                        exact ur_ret rfl rfl (hQ _ ⟨_, rfl⟩ )
                                      · have t105 := ne_no c103
                                        refine ur_ldI rfl rfl ?_
                                        refine ur_go rfl ?_
                                        exact ur_ret rfl rfl (hQ _ ⟨_, rfl⟩ )
                                    · have t106 := ne_no c101
                                      refine ur_ldI rfl rfl ?_
                                      refine ur_go rfl ?_
                                      exact ur_ret rfl rfl (hQ _ ⟨_, rfl⟩ )
                                  · have t107 := ne_no c99
                                    refine ur_ldI rfl rfl ?_
                                    refine ur_go rfl ?_
                                    exact ur_ret rfl rfl (hQ _ ⟨_, rfl⟩ )
                              · have t108 := le_no c86
                                refine ur_go rfl ?_
                                refine ur_incV (fun z => [some (.inr (.inr (some 69))), some (.inl a1), some (.inl a2), some (.inl a3), some (.inl x67), some (.inl x27), some (.inl x52), some (.inl z), some (.inl x85)]) rfl rfl (fun _ => rfl) (fun x109 e110 => ?_)
                                have z111 := any_r x68
                                have t112 := ti_add e110 (by omega) (by omega)
                                refine ur_go rfl ?_
                                have z113 := any_r x109
                                exact ih72 x67 x109 _ (by omega) (by omega)
                        exact L70 _ x51 1 (u54) (by omega) (Nat.lt_succ_self _)
                  exact L55 _ x26 5 (u29) (u30) (by omega) (Nat.lt_succ_self _)
                · have t114 := wi_noL c49 l_0 l_999999
                  refine ur_go rfl ?_
                  refine ur_incV (fun z => [some (.inr (.inr (some 69))), some (.inl a1), some (.inl a2), some (.inl a3), some (.inl x26), some (.inl z), u28, u29, u30]) rfl rfl (fun _ => rfl) (fun x115 e116 => ?_)
                  have t117 := ti_add e116 (by omega) (by omega)
                  refine ur_go rfl ?_
                  have z118 := any_r x115
                  exact ih33 x26 x115 _ _ _ (by omega) (by omega)
          have z119 := any_r x22
          exact L31 _ 0 x22 (none) (none) (none) (by omega) (Nat.lt_succ_self _)
        · have t120 := le_no c20
          refine ur_push rfl ?_
          exact ur_ret rfl rfl (hQ _ ⟨_, rfl⟩ )
      · have t121 := wi_noL c13 l_0 l_4
        refine ur_push rfl ?_
        exact ur_ret rfl rfl (hQ _ ⟨_, rfl⟩ )

set_option maxRecDepth 20000 in
set_option maxHeartbeats 4000000 in
theorem sf_X12_alike {d kc ks : Nat} {h0 : aH} {Q : Option aV → aH → Prop} (hO0 : OK h0) (a1 : Int32) (a2 : Int32) (a3 : Int32) (hQ : ∀ r, (∃ x, r = some (.inl x)) → Q r h0) : uCall Mt (d + 3) 271 [(.inr (.inr (some 69))), (.inl a1), (.inl a2), (.inl a3)] h0 kc ks Q := by
  have l_m1 : ((-1) : Int32).toInt = -1 := by decide
  have l_0 : ((0) : Int32).toInt = 0 := by decide
  have l_1 : ((1) : Int32).toInt = 1 := by decide
  have l_180 : ((180) : Int32).toInt = 180 := by decide
  refine uc_ink [some (.inr (.inr (some 69))), some (.inl a1), some (.inl a2), some (.inl a3)] mt_271 (Nat.le_of_ble_eq_true rfl) rfl ?_
  refine ur_ldA rfl rfl ?_
  refine ur_ldI rfl rfl ?_
  obtain ⟨fs1, hc2⟩ := hO0.mod
  refine ur_inl rfl (rcv_of hc2) (Nat.le_of_ble_eq_true rfl) (Nat.le_of_ble_eq_true rfl) (sf_X12_isComet hO0 _ (fun w3 hr4 => ?_))
  obtain ⟨b5, rfl, t6⟩ := hr4
  show uRun _ (uCall Mt _) _ 5 (_, [(.inl (bi b5))], _, _, _)
  refine ur_eqB rfl (fun c7 => ?_) (fun c7 => ?_)
  · refine ur_push rfl ?_
    exact ur_ret rfl rfl (hQ _ ⟨_, rfl⟩ )
  · have t8 := t6 c7
    refine ur_ldA rfl rfl ?_
    refine ur_ldI rfl rfl ?_
    refine ur_inl rfl (rcv_of hc2) (Nat.le_of_ble_eq_true rfl) (Nat.le_of_ble_eq_true rfl) (sf_X12_isComet hO0 _ (fun w9 hr10 => ?_))
    obtain ⟨b11, rfl, t12⟩ := hr10
    show uRun _ (uCall Mt _) _ 13 (_, [(.inl (bi b11))], _, _, _)
    refine ur_eqB rfl (fun c13 => ?_) (fun c13 => ?_)
    · refine ur_push rfl ?_
      exact ur_ret rfl rfl (hQ _ ⟨_, rfl⟩ )
    · have t14 := t12 c13
      refine ur_ldI rfl rfl ?_
      refine ur_push rfl ?_
      refine ur_push rfl ?_
      refine ur_callv rfl rfl (Nat.le_of_ble_eq_true rfl) (Nat.le_of_ble_eq_true rfl) rfl (sp_in _ _ _ _ _) ?_
      refine ur_neB rfl (fun c17 => ?_) (fun c17 => ?_)
      · have t18 := wi_toL c17 l_0 l_180
        refine ur_ldA rfl rfl ?_
        refine ur_get rfl hc2 (mf_7 hO0 hc2) ?_
        refine ur_ldI rfl rfl ?_
        obtain ⟨xs20, hc19, hn21, he22⟩ := hO0.int (hO0.fix 74 (by decide) rfl)
        refine ur_aldV rfl hc19 hn21 (by omega) (fun x23 hx24 => ?_)
        refine ur_ldA rfl rfl ?_
        refine ur_get rfl hc2 (mf_7 hO0 hc2) ?_
        refine ur_ldI rfl rfl ?_
        refine ur_aldV rfl hc19 hn21 (by omega) (fun x25 hx26 => ?_)
        refine ur_inl rfl rfl (Nat.le_of_ble_eq_true rfl) (Nat.le_of_ble_eq_true rfl) (sf_X12_apartOf _ _ (fun w27 hr28 => ?_))
        obtain ⟨x29, rfl⟩ := hr28
        show uRun _ (uCall Mt _) _ 44 (_, [(.inl x29)], _, _, _)
        refine ur_ldI rfl rfl ?_
        have z30 := any_r x29
        have z31 := any_r a3
        refine ur_if2 rfl (fun c32 => ?_) (fun c32 => ?_)
        · have t33 := lt_to c32
          refine ur_push rfl ?_
          exact ur_ret rfl rfl (hQ _ ⟨_, rfl⟩ )
        · have t34 := lt_no c32
          refine ur_ldA rfl rfl ?_
          refine ur_get rfl hc2 (mf_8 hO0 hc2) ?_
          refine ur_ldI rfl rfl ?_
          obtain ⟨xs36, hc35, hn37, he38⟩ := hO0.int (hO0.fix 75 (by decide) rfl)
          refine ur_aldV rfl hc35 hn37 (by omega) (fun x39 hx40 => ?_)
          have t41 : 0 ≤ x39.toInt ∧ x39.toInt ≤ 99 := he38 _ _ hx40
          refine ur_ldA rfl rfl ?_
          refine ur_get rfl hc2 (mf_8 hO0 hc2) ?_
          refine ur_ldI rfl rfl ?_
          refine ur_aldV rfl hc35 hn37 (by omega) (fun x42 hx43 => ?_)
          have t44 : 0 ≤ x42.toInt ∧ x42.toInt ≤ 99 := he38 _ _ hx43
          refine ur_binV rfl (fun x45 e46 => ?_)
          have z47 := any_r x39
          have z48 := any_r x42
          have t49 := ti_sub e46 (by omega) (by omega)
          refine ur_inl rfl rfl (Nat.le_of_ble_eq_true rfl) (Nat.le_of_ble_eq_true rfl) (sf_X12_sizeOf _ (fun w50 hr51 => ?_))
          obtain ⟨x52, rfl, t53⟩ := hr51
          show uRun _ (uCall Mt _) _ 64 (_, [(.inl x52)], _, _, _)
          refine ur_ldI rfl rfl ?_
          have z54 := any_r x52
          refine ur_if2 rfl (fun c55 => ?_) (fun c55 => ?_)
          · have t56 := lt_to c55
            refine ur_push rfl ?_
            exact ur_ret rfl rfl (hQ _ ⟨_, rfl⟩ )
          · have t57 := lt_no c55
            refine ur_ldA rfl rfl ?_
            refine ur_get rfl hc2 (mf_9 hO0 hc2) ?_
            refine ur_ldI rfl rfl ?_
            obtain ⟨xs59, hc58, hn60, he61⟩ := hO0.int (hO0.fix 76 (by decide) rfl)
            refine ur_aldV rfl hc58 hn60 (by omega) (fun x62 hx63 => ?_)
            refine ur_ldA rfl rfl ?_
            refine ur_get rfl hc2 (mf_9 hO0 hc2) ?_
            refine ur_ldI rfl rfl ?_
            refine ur_aldV rfl hc58 hn60 (by omega) (fun x64 hx65 => ?_)
            have z66 := any_r x62
            have z67 := any_r x64
            refine ur_if2 rfl (fun c68 => ?_) (fun c68 => ?_)
            · have t69 := ne_to c68
              refine ur_push rfl ?_
              exact ur_ret rfl rfl (hQ _ ⟨_, rfl⟩ )
            · have t70 := ne_no c68
              refine ur_push rfl ?_
              refine ur_go rfl ?_
              exact ur_ret rfl rfl (hQ _ ⟨_, rfl⟩ )
      · have t71 := wi_noL c17 l_0 l_180
        refine ur_push rfl ?_
        exact ur_ret rfl rfl (hQ _ ⟨_, rfl⟩ )

set_option maxRecDepth 20000 in
set_option maxHeartbeats 4000000 in
theorem sf_X12_draw {d kc ks : Nat} {h0 : aH} {Q : Option aV → aH → Prop} (hO0 : OK h0) (a1 : Int32) (b1 : 1 ≤ a1.toInt ∧ a1.toInt ≤ 360) (hQ : ∀ r h', (∃ x, r = some (.inl x)) → OK h' → un [] h0 h' → Q r h') : uCall Mt (d + 1) 272 [(.inr (.inr (some 69))), (.inl a1)] h0 kc ks Q := by
  have l_8 : ((8) : Int32).toInt = 8 := by decide
  have l_12345 : ((12345) : Int32).toInt = 12345 := by decide
  have l_1103515245 : ((1103515245) : Int32).toInt = 1103515245 := by decide
  refine uc_ink [some (.inr (.inr (some 69))), some (.inl a1)] mt_272 (Nat.le_of_ble_eq_true rfl) rfl ?_
  refine ur_ldA rfl rfl ?_
  refine ur_ldA rfl rfl ?_
  obtain ⟨fs1, hc2⟩ := hO0.mod
  obtain ⟨f3, p4⟩ := mf_60 hO0 hc2
  refine ur_get rfl hc2 p4 ?_
  refine ur_push rfl ?_
  refine ur_binV rfl (fun x5 e6 => ?_)
  have z7 := any_r f3
  refine ur_push rfl ?_
  refine ur_binV rfl (fun x8 e9 => ?_)
  have z10 := any_r x5
  refine ur_putM (W := []) rfl hO0 hc2 (by decide) rfl (ms_60 (hO0.msh hc2)) (Or.inl rfl) (fun h12 hO12 hu12 d11 hc13 => ?_)
  refine ur_ldA rfl rfl ?_
  refine ur_get rfl hc13 (gs_eq p4) ?_
  refine ur_push rfl ?_
  refine ur_binV rfl (fun x14 e15 => ?_)
  refine ur_ldI rfl rfl ?_
  refine ur_divV rfl (nz_of (by omega)) (fun x16 e17 => ?_)
  have z18 := any_r x14
  have z19 := any_r a1
  exact ur_ret rfl rfl (hQ _ _ ⟨_, rfl⟩ hO12 hu12)

set_option maxRecDepth 20000 in
set_option maxHeartbeats 4000000 in
theorem sf_X12_chance {d kc ks : Nat} {h0 : aH} {Q : Option aV → aH → Prop} (hO0 : OK h0) (a1 : Int32) (a2 : Int32) (a3 : Int32) (hQ : ∀ r h', (∃ x, r = some (.inl x)) → OK h' → un [] h0 h' → Q r h') : uCall Mt (d + 3) 273 [(.inr (.inr (some 69))), (.inl a1), (.inl a2), (.inl a3)] h0 kc ks Q := by
  have l_m1 : ((-1) : Int32).toInt = -1 := by decide
  have l_0 : ((0) : Int32).toInt = 0 := by decide
  have l_1 : ((1) : Int32).toInt = 1 := by decide
  have l_5 : ((5) : Int32).toInt = 5 := by decide
  have l_95 : ((95) : Int32).toInt = 95 := by decide
  have l_180 : ((180) : Int32).toInt = 180 := by decide
  have l_200 : ((200) : Int32).toInt = 200 := by decide
  have l_360 : ((360) : Int32).toInt = 360 := by decide
  have l_1000 : ((1000) : Int32).toInt = 1000 := by decide
  refine uc_ink [some (.inr (.inr (some 69))), some (.inl a1), some (.inl a2), some (.inl a3), none, none, none, none, none, none] mt_273 (Nat.le_of_ble_eq_true rfl) rfl ?_
  refine ur_ldI rfl rfl ?_
  refine ur_push rfl ?_
  refine ur_push rfl ?_
  refine ur_callv rfl rfl (Nat.le_of_ble_eq_true rfl) (Nat.le_of_ble_eq_true rfl) rfl (sp_in _ _ _ _ _) ?_
  refine ur_eqB rfl (fun c3 => ?_) (fun c3 => ?_)
  · have t4 := wi_noL c3 l_0 l_180
    refine ur_push rfl ?_
    exact ur_ret rfl rfl (hQ _ _ ⟨_, rfl⟩ hO0 un.rf)
  · have t5 := wi_toL c3 l_0 l_180
    refine ur_ldI rfl rfl ?_
    refine ur_push rfl ?_
    refine ur_push rfl ?_
    refine ur_callv rfl rfl (Nat.le_of_ble_eq_true rfl) (Nat.le_of_ble_eq_true rfl) rfl (sp_in _ _ _ _ _) ?_
    refine ur_neB rfl (fun c8 => ?_) (fun c8 => ?_)
    · have t9 := wi_toL c8 l_1 l_200
      refine ur_ldA rfl rfl ?_
      refine ur_ldI rfl rfl ?_
      obtain ⟨fs10, hc11⟩ := hO0.mod
      obtain ⟨f12, p13⟩ := mf_60 hO0 hc11
      refine ur_putM (W := []) rfl hO0 hc11 (by decide) rfl (ms_60 (hO0.msh hc11)) (Or.inl rfl) (fun h15 hO15 hu15 d14 hc16 => ?_)
      refine ur_push rfl ?_
      refine ur_svIk [some (.inr (.inr (some 69))), some (.inl a1), some (.inl a2), some (.inl a3), some (.inl 0), none, none, none, none, none] rfl rfl ?_
      refine ur_push rfl ?_
      refine ur_svIk [some (.inr (.inr (some 69))), some (.inl a1), some (.inl a2), some (.inl a3), some (.inl 0), some (.inl 0), none, none, none, none] rfl rfl ?_
      have L23 : ∀ (m24 : Nat) (x17 : Int32) (x18 : Int32) (u19 : Option aV) (u20 : Option aV) (u21 : Option aV) (u22 : Option aV) (h26 : aH) , OK h26 → un [] h15 h26 → ((0 ≤ x18.toInt ∧ x18.toInt ≤ 2147483647)) → ((2147483648 - x18.toInt).toNat) < m24 → uRun oX12_chance (uCall Mt (d + 2)) Q 35 ([some (.inr (.inr (some 69))), some (.inl a1), some (.inl a2), some (.inl a3), some (.inl x17), some (.inl x18), u19, u20, u21, u22], [], h26, kc, ks) := by
        intro m24
        induction m24 with
        | zero => intro x17 x18 u19 u20 u21 u22 h26 hO26 hu26 iv27 mm28; omega
        | succ m24 ih25 =>
          intro x17 x18 u19 u20 u21 u22 h26 hO26 hu26 iv27 mm28
          refine ur_ldI rfl rfl ?_
          refine ur_ldI rfl rfl ?_
          have z29 := any_r x18
          have z30 := any_r a3
          refine ur_if2 rfl (fun c31 => ?_) (fun c31 => ?_)
          · have t32 := le_to c31
            refine ur_push rfl ?_
            refine ur_ldI rfl rfl ?_
            refine ur_binV rfl (fun x33 e34 => ?_)
            have z35 := any_r x17
            refine ur_ldI rfl rfl ?_
            refine ur_divV rfl (nz_of (by omega)) (fun x36 e37 => ?_)
            have z38 := any_r x33
            exact ur_ret rfl rfl (hQ _ _ ⟨_, rfl⟩ hO26 (hu15.tr hu26))
          · have t39 := le_no c31
            refine ur_ldA rfl rfl ?_
            refine ur_push rfl ?_
            obtain ⟨fs40, hc41⟩ := hO26.mod
            refine ur_inl rfl (rcv_of hc41) (Nat.le_of_ble_eq_true rfl) (Nat.le_of_ble_eq_true rfl) (sf_X12_draw hO26 _ (by show 1 ≤ (360 : Int32).toInt ∧ (360 : Int32).toInt ≤ 360; omega) (fun w42 h44 hr43 hO44 hv44 => ?_))
            have hu44 := hv44
            obtain ⟨x45, rfl⟩ := hr43
            show uRun _ (uCall Mt _) _ 48 (_, [(.inl x45)], _, _, _)
            refine ur_svIk [some (.inr (.inr (some 69))), some (.inl a1), some (.inl a2), some (.inl a3), some (.inl x17), some (.inl x18), some (.inl x45), u20, u21, u22] rfl rfl ?_
            refine ur_push rfl ?_
            refine ur_ldA rfl rfl ?_
            refine ur_push rfl ?_
            obtain ⟨fs46, hc47⟩ := hO44.mod
            refine ur_inl rfl (rcv_of hc47) (Nat.le_of_ble_eq_true rfl) (Nat.le_of_ble_eq_true rfl) (sf_X12_draw hO44 _ (by show 1 ≤ (95 : Int32).toInt ∧ (95 : Int32).toInt ≤ 360; omega) (fun w48 h50 hr49 hO50 hv50 => ?_))
            have hu50 := hv50
            obtain ⟨x51, rfl⟩ := hr49
            show uRun _ (uCall Mt _) _ 57 (_, [(.inl x51), (.inl 5)], _, _, _)
            refine ur_binV rfl (fun x52 e53 => ?_)
            have z54 := any_r x51
            refine ur_svIk [some (.inr (.inr (some 69))), some (.inl a1), some (.inl a2), some (.inl a3), some (.inl x17), some (.inl x18), some (.inl x45), some (.inl x52), u21, u22] rfl rfl ?_
            refine ur_ldA rfl rfl ?_
            refine ur_push rfl ?_
            obtain ⟨fs55, hc56⟩ := hO50.mod
            refine ur_inl rfl (rcv_of hc56) (Nat.le_of_ble_eq_true rfl) (Nat.le_of_ble_eq_true rfl) (sf_X12_draw hO50 _ (by show 1 ≤ (360 : Int32).toInt ∧ (360 : Int32).toInt ≤ 360; omega) (fun w57 h59 hr58 hO59 hv59 => ?_))
            have hu59 := hv59
            obtain ⟨x60, rfl⟩ := hr58
            show uRun _ (uCall Mt _) _ 67 (_, [(.inl x60)], _, _, _)
            refine ur_svIk [some (.inr (.inr (some 69))), some (.inl a1), some (.inl a2), some (.inl a3), some (.inl x17), some (.inl x18), some (.inl x45), some (.inl x52), some (.inl x60), u22] rfl rfl ?_
            refine ur_push rfl ?_
            refine ur_ldA rfl rfl ?_
            refine ur_push rfl ?_
            obtain ⟨fs61, hc62⟩ := hO59.mod
            refine ur_inl rfl (rcv_of hc62) (Nat.le_of_ble_eq_true rfl) (Nat.le_of_ble_eq_true rfl) (sf_X12_draw hO59 _ (by show 1 ≤ (95 : Int32).toInt ∧ (95 : Int32).toInt ≤ 360; omega) (fun w63 h65 hr64 hO65 hv65 => ?_))
            have hu65 := hv65
            obtain ⟨x66, rfl⟩ := hr64
            show uRun _ (uCall Mt _) _ 76 (_, [(.inl x66), (.inl 5)], _, _, _)
            refine ur_binV rfl (fun x67 e68 => ?_)
            have z69 := any_r x66
            refine ur_svIk [some (.inr (.inr (some 69))), some (.inl a1), some (.inl a2), some (.inl a3), some (.inl x17), some (.inl x18), some (.inl x45), some (.inl x52), some (.inl x60), some (.inl x67)] rfl rfl ?_
            refine ur_ldI rfl rfl ?_
            refine ur_ldI rfl rfl ?_
            refine ur_ldI rfl rfl ?_
            refine ur_inl rfl rfl (Nat.le_of_ble_eq_true rfl) (Nat.le_of_ble_eq_true rfl) (sf_X12_apartOf _ _ (fun w70 hr71 => ?_))
            obtain ⟨x72, rfl⟩ := hr71
            show uRun _ (uCall Mt _) _ 88 (_, [(.inl x72), (.inl x17)], _, _, _)
            refine ur_ldI rfl rfl ?_
            have z73 := any_r x72
            have z74 := any_r a1
            refine ur_if2 rfl (fun c75 => ?_) (fun c75 => ?_)
            · have t76 := lt_to c75
              refine ur_push rfl ?_
              refine ur_binV rfl (fun x77 e78 => ?_)
              have z79 := any_r x17
              have t80 := ti_add e78 (by omega) (by omega)
              refine ur_svIk [some (.inr (.inr (some 69))), some (.inl a1), some (.inl a2), some (.inl a3), some (.inl x77), some (.inl x18), some (.inl x45), some (.inl x52), some (.inl x60), some (.inl x67)] rfl rfl ?_
              refine ur_incV (fun z => [some (.inr (.inr (some 69))), some (.inl a1), some (.inl a2), some (.inl a3), some (.inl x77), some (.inl z), some (.inl x45), some (.inl x52), some (.inl x60), some (.inl x67)]) rfl rfl (fun _ => rfl) (fun x81 e82 => ?_)
              have t83 := ti_add e82 (by omega) (by omega)
              refine ur_go rfl ?_
              have z84 := any_r x81
              exact ih25 x77 x81 _ _ _ _ _ hO65 (hu26.tr (hu44.tr (hu50.tr (hu59.tr hu65)))) (by omega) (by omega)
            · have t85 := lt_no c75
              refine ur_ldI rfl rfl ?_
              refine ur_ldI rfl rfl ?_
              refine ur_binV rfl (fun x86 e87 => ?_)
              have z88 := any_r x52
              have z89 := any_r x67
              refine ur_inl rfl rfl (Nat.le_of_ble_eq_true rfl) (Nat.le_of_ble_eq_true rfl) (sf_X12_sizeOf _ (fun w90 hr91 => ?_))
              obtain ⟨x92, rfl, t93⟩ := hr91
              show uRun _ (uCall Mt _) _ 100 (_, [(.inl x92), (.inl x17)], _, _, _)
              refine ur_ldI rfl rfl ?_
              have z94 := any_r x92
              refine ur_if2 rfl (fun c95 => ?_) (fun c95 => ?_)
              · have t96 := lt_to c95
                refine ur_push rfl ?_
                refine ur_binV rfl (fun x97 e98 => ?_)
                have z99 := any_r x17
                have t100 := ti_add e98 (by omega) (by omega)
                refine ur_svIk [some (.inr (.inr (some 69))), some (.inl a1), some (.inl a2), some (.inl a3), some (.inl x97), some (.inl x18), some (.inl x45), some (.inl x52), some (.inl x60), some (.inl x67)] rfl rfl ?_
                refine ur_incV (fun z => [some (.inr (.inr (some 69))), some (.inl a1), some (.inl a2), some (.inl a3), some (.inl x97), some (.inl z), some (.inl x45), some (.inl x52), some (.inl x60), some (.inl x67)]) rfl rfl (fun _ => rfl) (fun x101 e102 => ?_)
                have t103 := ti_add e102 (by omega) (by omega)
                refine ur_go rfl ?_
                have z104 := any_r x101
                exact ih25 x97 x101 _ _ _ _ _ hO65 (hu26.tr (hu44.tr (hu50.tr (hu59.tr hu65)))) (by omega) (by omega)
              · have t105 := lt_no c95
                refine ur_push rfl ?_
                refine ur_go rfl ?_
                refine ur_binV rfl (fun x106 e107 => ?_)
                have z108 := any_r x17
                refine ur_svIk [some (.inr (.inr (some 69))), some (.inl a1), some (.inl a2), some (.inl a3), some (.inl x106), some (.inl x18), some (.inl x45), some (.inl x52), some (.inl x60), some (.inl x67)] rfl rfl ?_
                refine ur_incV (fun z => [some (.inr (.inr (some 69))), some (.inl a1), some (.inl a2), some (.inl a3), some (.inl x106), some (.inl z), some (.inl x45), some (.inl x52), some (.inl x60), some (.inl x67)]) rfl rfl (fun _ => rfl) (fun x109 e110 => ?_)
                have t111 := ti_add e110 (by omega) (by omega)
                refine ur_go rfl ?_
                have z112 := any_r x109
                exact ih25 x106 x109 _ _ _ _ _ hO65 (hu26.tr (hu44.tr (hu50.tr (hu59.tr hu65)))) (by omega) (by omega)
      exact L23 _ 0 0 (none) (none) (none) (none) _ hO15 un.rf (by omega) (Nat.lt_succ_self _)
    · have t113 := wi_noL c8 l_1 l_200
      refine ur_push rfl ?_
      exact ur_ret rfl rfl (hQ _ _ ⟨_, rfl⟩ hO0 un.rf)

set_option maxRecDepth 20000 in
set_option maxHeartbeats 4000000 in
theorem sf_X12_ran {d kc ks : Nat} {h0 : aH} {Q : Option aV → aH → Prop} (hO0 : OK h0) (a1 : Int32) (pre0 : fI h0 63 ≤ 900000) (hQ : ∀ r h', (r = none) → OK h' → un [109, 7963] h0 h' → (fI h' 63 = fI h0 63 + 1) → Q r h') : uCall Mt (d + 1) 283 [(.inr (.inr (some 69))), (.inl a1)] h0 kc ks Q := by
  have l_1 : ((1) : Int32).toInt = 1 := by decide
  have l_24 : ((24) : Int32).toInt = 24 := by decide
  refine uc_ink [some (.inr (.inr (some 69))), some (.inl a1)] mt_283 (Nat.le_of_ble_eq_true rfl) rfl ?_
  obtain ⟨fs1, hc2⟩ := hO0.mod
  obtain ⟨f3, p4, t5⟩ := mf_63 hO0 hc2
  have t6 := fI_of hc2 p4
  refine ur_ldA rfl rfl ?_
  refine ur_get rfl hc2 p4 ?_
  refine ur_push rfl ?_
  refine ur_if2 rfl (fun c7 => ?_) (fun c7 => ?_)
  · have t8 := le_to c7
    refine ur_ldA rfl rfl ?_
    refine ur_dup rfl rfl ?_
    refine ur_get rfl hc2 p4 ?_
    refine ur_push rfl ?_
    refine ur_binV rfl (fun x9 e10 => ?_)
    have z11 := any_r f3
    have t12 := ti_add e10 (by omega) (by omega)
    refine ur_putM (W := [109, 7963]) rfl hO0 hc2 (by decide) rfl (ms_63 (hO0.msh hc2) (show 0 ≤ x9.toInt ∧ x9.toInt ≤ 1000000 by omega)) (Or.inr (by decide)) (fun h14 hO14 hu14 d13 hc15 => ?_)
    have t16 := fI_of hc15 (gs_eq p4)
    exact ur_ret0 rfl (hQ _ _ rfl hO14 hu14 (by omega))
  · have t17 := le_no c7
    refine ur_ldA rfl rfl ?_
    refine ur_get rfl hc2 (mf_64 hO0 hc2) ?_
    refine ur_ldA rfl rfl ?_
    refine ur_get rfl hc2 p4 ?_
    refine ur_ldI rfl rfl ?_
    obtain ⟨xs19, hc18, hn20, he21⟩ := hO0.int (hO0.fix 109 (by decide) rfl)
    refine ur_astV (W := [109, 7963]) (m := 24) rfl hO0 hc18 (by decide) hn20 (by omega) (any_r _) (Or.inr (Or.inr (wid_fix (by decide) (by decide)))) (fun h24 hO24 hu24 d22 hc23 => ?_)
    refine ur_ldA rfl rfl ?_
    refine ur_dup rfl rfl ?_
    have t25 := fI_of ((d22 _ (by decide)).trans hc2) p4
    refine ur_get rfl ((d22 _ (by decide)).trans hc2) p4 ?_
    refine ur_push rfl ?_
    refine ur_binV rfl (fun x26 e27 => ?_)
    have z28 := any_r f3
    have t29 := ti_add e27 (by omega) (by omega)
    refine ur_putM (W := [109, 7963]) rfl hO24 ((d22 _ (by decide)).trans hc2) (by decide) rfl (ms_63 (hO24.msh ((d22 _ (by decide)).trans hc2)) (show 0 ≤ x26.toInt ∧ x26.toInt ≤ 1000000 by omega)) (Or.inr (by decide)) (fun h31 hO31 hu31 d30 hc32 => ?_)
    have t33 := fI_of hc32 (gs_eq p4)
    exact ur_ret0 rfl (hQ _ _ rfl hO31 (hu24.tr hu31) (by omega))

set_option maxRecDepth 20000 in
set_option maxHeartbeats 4000000 in
theorem sf_X12_trace {d kc ks : Nat} {h0 : aH} {Q : Option aV → aH → Prop} (hO0 : OK h0) (a1 : Int32) (hQ : ∀ r, (∃ x, r = some (.inl x)) → Q r h0) : uCall Mt (d + 1) 294 [(.inr (.inr (some 69))), (.inl a1)] h0 kc ks Q := by
  have l_m1 : ((-1) : Int32).toInt = -1 := by decide
  have l_0 : ((0) : Int32).toInt = 0 := by decide
  have l_24 : ((24) : Int32).toInt = 24 := by decide
  refine uc_ink [some (.inr (.inr (some 69))), some (.inl a1)] mt_294 (Nat.le_of_ble_eq_true rfl) rfl ?_
  refine ur_ldI rfl rfl ?_
  refine ur_if1 rfl (fun c1 => ?_) (fun c1 => ?_)
  · have t2 := lt_to c1
    refine ur_push rfl ?_
    exact ur_ret rfl rfl (hQ _ ⟨_, rfl⟩ )
  · have t3 := lt_no c1
    refine ur_ldI rfl rfl ?_
    refine ur_ldA rfl rfl ?_
    obtain ⟨fs4, hc5⟩ := hO0.mod
    obtain ⟨f6, p7, t8⟩ := mf_63 hO0 hc5
    refine ur_get rfl hc5 p7 ?_
    have z9 := any_r a1
    have z10 := any_r f6
    refine ur_if2 rfl (fun c11 => ?_) (fun c11 => ?_)
    · have t12 := le_to c11
      refine ur_push rfl ?_
      exact ur_ret rfl rfl (hQ _ ⟨_, rfl⟩ )
    · have t13 := le_no c11
      refine ur_ldI rfl rfl ?_
      refine ur_push rfl ?_
      refine ur_if2 rfl (fun c14 => ?_) (fun c14 => ?_)
      · have t15 := le_to c14
        refine ur_push rfl ?_
        exact ur_ret rfl rfl (hQ _ ⟨_, rfl⟩ )
      · have t16 := le_no c14
        refine ur_ldA rfl rfl ?_
        refine ur_get rfl hc5 (mf_64 hO0 hc5) ?_
        refine ur_ldI rfl rfl ?_
        obtain ⟨xs18, hc17, hn19, he20⟩ := hO0.int (hO0.fix 109 (by decide) rfl)
        refine ur_aldV rfl hc17 hn19 (by omega) (fun x21 hx22 => ?_)
        refine ur_go rfl ?_
        exact ur_ret rfl rfl (hQ _ ⟨_, rfl⟩ )

set_option maxRecDepth 20000 in
set_option maxHeartbeats 4000000 in
theorem sf_X12_count {d kc ks : Nat} {h0 : aH} {Q : Option aV → aH → Prop} (hO0 : OK h0) (a1 : Int32) (hQ : ∀ r, (∃ x, r = some (.inl x)) → Q r h0) : uCall Mt (d + 1) 295 [(.inr (.inr (some 69))), (.inl a1)] h0 kc ks Q := by
  have l_m1 : ((-1) : Int32).toInt = -1 := by decide
  refine uc_ink [some (.inr (.inr (some 69))), some (.inl a1)] mt_295 (Nat.le_of_ble_eq_true rfl) rfl ?_
  refine ur_ldI rfl rfl ?_
  rcases (show (a1.toInt < 0 ∨ 6 < a1.toInt) ∨ a1.toInt = 0 ∨ a1.toInt = 1 ∨ a1.toInt = 2 ∨ a1.toInt = 3 ∨ a1.toInt = 4 ∨ a1.toInt = 5 ∨ a1.toInt = 6 by omega) with t1 | t1 | t1 | t1 | t1 | t1 | t1 | t1
  · refine ur_tabO rfl (by show a1.toInt < 0 ∨ 0 + 7 ≤ a1.toInt; omega) ?_
    refine ur_push rfl ?_
    exact ur_ret rfl rfl (hQ _ ⟨_, rfl⟩ )
  · refine ur_tabI rfl (by omega) (by rw [t1]; rfl) ?_
    refine ur_ldA rfl rfl ?_
    obtain ⟨fs2, hc3⟩ := hO0.mod
    obtain ⟨f4, p5, t6⟩ := mf_1 hO0 hc3
    refine ur_get rfl hc3 p5 ?_
    exact ur_ret rfl rfl (hQ _ ⟨_, rfl⟩ )
  · refine ur_tabI rfl (by omega) (by rw [t1]; rfl) ?_
    refine ur_ldA rfl rfl ?_
    obtain ⟨fs7, hc8⟩ := hO0.mod
    obtain ⟨f9, p10, t11⟩ := mf_4 hO0 hc8
    refine ur_get rfl hc8 p10 ?_
    exact ur_ret rfl rfl (hQ _ ⟨_, rfl⟩ )
  · refine ur_tabI rfl (by omega) (by rw [t1]; rfl) ?_
    refine ur_ldA rfl rfl ?_
    obtain ⟨fs12, hc13⟩ := hO0.mod
    obtain ⟨f14, p15, t16⟩ := mf_38 hO0 hc13
    refine ur_get rfl hc13 p15 ?_
    exact ur_ret rfl rfl (hQ _ ⟨_, rfl⟩ )
  · refine ur_tabI rfl (by omega) (by rw [t1]; rfl) ?_
    refine ur_ldA rfl rfl ?_
    obtain ⟨fs17, hc18⟩ := hO0.mod
    obtain ⟨f19, p20, t21⟩ := mf_19 hO0 hc18
    refine ur_get rfl hc18 p20 ?_
    exact ur_ret rfl rfl (hQ _ ⟨_, rfl⟩ )
  · refine ur_tabI rfl (by omega) (by rw [t1]; rfl) ?_
    refine ur_ldA rfl rfl ?_
    obtain ⟨fs22, hc23⟩ := hO0.mod
    obtain ⟨f24, p25, t26⟩ := mf_34 hO0 hc23
    refine ur_get rfl hc23 p25 ?_
    exact ur_ret rfl rfl (hQ _ ⟨_, rfl⟩ )
  · refine ur_tabI rfl (by omega) (by rw [t1]; rfl) ?_
    refine ur_ldA rfl rfl ?_
    obtain ⟨fs27, hc28⟩ := hO0.mod
    obtain ⟨f29, p30, t31⟩ := mf_57 hO0 hc28
    refine ur_get rfl hc28 p30 ?_
    exact ur_ret rfl rfl (hQ _ ⟨_, rfl⟩ )
  · refine ur_tabI rfl (by omega) (by rw [t1]; rfl) ?_
    refine ur_ldA rfl rfl ?_
    obtain ⟨fs32, hc33⟩ := hO0.mod
    obtain ⟨f34, p35, t36⟩ := mf_63 hO0 hc33
    refine ur_get rfl hc33 p35 ?_
    exact ur_ret rfl rfl (hQ _ ⟨_, rfl⟩ )

set_option maxRecDepth 20000 in
set_option maxHeartbeats 4000000 in
theorem sf_X12_taken {d kc ks : Nat} {h0 : aH} {Q : Option aV → aH → Prop} (hO0 : OK h0) (a1 : Int32) (a2 : Int32) (hQ : ∀ r, (∃ x, r = some (.inl x)) → Q r h0) : uCall Mt (d + 3) 303 [(.inr (.inr (some 69))), (.inl a1), (.inl a2)] h0 kc ks Q := by
  have l_m12 : ((-12) : Int32).toInt = -12 := by decide
  have l_m11 : ((-11) : Int32).toInt = -11 := by decide
  have l_m1 : ((-1) : Int32).toInt = -1 := by decide
  have l_0 : ((0) : Int32).toInt = 0 := by decide
  have l_5 : ((5) : Int32).toInt = 5 := by decide
  have l_7 : ((7) : Int32).toInt = 7 := by decide
  refine uc_ink [some (.inr (.inr (some 69))), some (.inl a1), some (.inl a2)] mt_303 (Nat.le_of_ble_eq_true rfl) rfl ?_
  refine ur_ldI rfl rfl ?_
  refine ur_callv rfl rfl (Nat.le_of_ble_eq_true rfl) (Nat.le_of_ble_eq_true rfl) rfl (sq_isShf _ _) ?_
  refine ur_eqB rfl (fun c3 => ?_) (fun c3 => ?_)
  · have t4 := wi_noL c3 l_0 l_5
    refine ur_push rfl ?_
    exact ur_ret rfl rfl (hQ _ ⟨_, rfl⟩ )
  · have t5 := wi_toL c3 l_0 l_5
    refine ur_ldI rfl rfl ?_
    refine ur_push rfl ?_
    refine ur_push rfl ?_
    refine ur_callv rfl rfl (Nat.le_of_ble_eq_true rfl) (Nat.le_of_ble_eq_true rfl) rfl (sp_in _ _ _ _ _) ?_
    refine ur_neB rfl (fun c8 => ?_) (fun c8 => ?_)
    · have t9 := wi_toL c8 l_0 l_7
      refine ur_ldA rfl rfl ?_
      obtain ⟨fs10, hc11⟩ := hO0.mod
      refine ur_get rfl hc11 (mf_65 hO0 hc11) ?_
      refine ur_ldI rfl rfl ?_
      obtain ⟨xs13, hc12, hn14, he15⟩ := hO0.int (hO0.fix 110 (by decide) rfl)
      refine ur_aldV rfl hc12 hn14 (by omega) (fun x16 hx17 => ?_)
      have t18 : -6 ≤ x16.toInt ∧ x16.toInt ≤ 149 := he15 _ _ hx17
      refine ur_push rfl ?_
      refine ur_if2 rfl (fun c19 => ?_) (fun c19 => ?_)
      · have t20 := ne_to c19
        refine ur_ldA rfl rfl ?_
        refine ur_get rfl hc11 (mf_65 hO0 hc11) ?_
        refine ur_ldI rfl rfl ?_
        refine ur_aldV rfl hc12 hn14 (by omega) (fun x21 hx22 => ?_)
        obtain rfl : x16 = x21 := Option.some.inj (hx17.symm.trans hx22)
        refine ur_if1 rfl (fun c23 => ?_) (fun c23 => ?_)
        · have t24 := lt_to c23
          refine ur_push rfl ?_
          exact ur_ret rfl rfl (hQ _ ⟨_, rfl⟩ )
        · have t25 := lt_no c23
          refine ur_ldA rfl rfl ?_
          refine ur_get rfl hc11 (mf_39 hO0 hc11) ?_
          refine ur_ldA rfl rfl ?_
          refine ur_get rfl hc11 (mf_65 hO0 hc11) ?_
          refine ur_ldI rfl rfl ?_
          refine ur_aldV rfl hc12 hn14 (by omega) (fun x26 hx27 => ?_)
          obtain rfl : x16 = x26 := Option.some.inj (hx17.symm.trans hx27)
          obtain ⟨xs29, hc28, hn30, he31⟩ := hO0.int (hO0.fix 96 (by decide) rfl)
          refine ur_aldV rfl hc28 hn30 (by omega) (fun x32 hx33 => ?_)
          have t34 : 0 ≤ x32.toInt ∧ x32.toInt ≤ 7 := he31 _ _ hx33
          refine ur_ldI rfl rfl ?_
          refine ur_inl rfl rfl (Nat.le_of_ble_eq_true rfl) (Nat.le_of_ble_eq_true rfl) (sf_X12_isUnder _ _ (fun w35 hr36 => ?_))
          obtain ⟨b37, rfl⟩ := hr36
          show uRun _ (uCall Mt _) _ 56 (_, [(.inl (bi b37))], _, _, _)
          refine ur_eqB rfl (fun c38 => ?_) (fun c38 => ?_)
          · refine ur_push rfl ?_
            exact ur_ret rfl rfl (hQ _ ⟨_, rfl⟩ )
          · refine ur_ldA rfl rfl ?_
            refine ur_get rfl hc11 (mf_39 hO0 hc11) ?_
            refine ur_ldA rfl rfl ?_
            refine ur_get rfl hc11 (mf_65 hO0 hc11) ?_
            refine ur_ldI rfl rfl ?_
            refine ur_aldV rfl hc12 hn14 (by omega) (fun x39 hx40 => ?_)
            obtain rfl : x16 = x39 := Option.some.inj (hx17.symm.trans hx40)
            refine ur_aldV rfl hc28 hn30 (by omega) (fun x41 hx42 => ?_)
            obtain rfl : x32 = x41 := Option.some.inj (hx33.symm.trans hx42)
            refine ur_go rfl ?_
            exact ur_ret rfl rfl (hQ _ ⟨_, rfl⟩ )
      · have t43 := ne_no c19
        refine ur_push rfl ?_
        exact ur_ret rfl rfl (hQ _ ⟨_, rfl⟩ )
    · have t44 := wi_noL c8 l_0 l_7
      refine ur_push rfl ?_
      exact ur_ret rfl rfl (hQ _ ⟨_, rfl⟩ )
end CT2
