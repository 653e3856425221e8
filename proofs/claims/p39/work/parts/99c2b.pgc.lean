/-! THE PAGES of the class, printed by program but for its head -/
section PGC
def arR (h : aH) (a : Nat) : List (Option Nat) := match h[a]? with
  | some (Sum.inr (_, Sum.inr (Sum.inr xs))) => xs
  | _ => []
theorem arR_of {h : aH} {a kd : Nat} {xs : List (Option Nat)} (hc : h[a]? = some (.inr (kd, .inr (.inr xs)))) : arR h a = xs := by
  unfold arR
  rw [hc]
/-- the words that are there -/
def NA (h : aH) : Prop := ∀ i : Nat, (i : Int) < fO h 15 1 → ∃ z, (arR h 16)[i]? = some (some z)
theorem NA_some {h : aH} {kd : Nat} {xs : List (Option Nat)} {j : Int32} {o : Option Nat} (hN : NA h) (hc : h[16]? = some (.inr (kd, .inr (.inr xs)))) (hx : xs[j.toInt.toNat]? = some o) (h0 : 0 ≤ j.toInt) (h1 : j.toInt < fO h 15 1) : o ≠ none := by
  obtain ⟨z, hz⟩ := hN j.toInt.toNat (by omega)
  rw [arR_of hc, hx] at hz
  cases hz
  exact fun e => nomatch e
set_option maxRecDepth 20000 in
set_option maxHeartbeats 4000000 in
theorem sd_X4_isEmpty {d kc ks : Nat} {h0 : aH} {Q : Option aV → aH → Prop} (hO0 : OK h0) (a1 : Int32) (hQ : ∀ r, (∃ q, r = some (.inl (bi q)) ∧ (q = true → (¬ (0 ≤ a1.toInt ∧ a1.toInt ≤ 5) ∨ gI h0 58 a1.toInt = 0)) ∧ (q = false → ¬ (¬ (0 ≤ a1.toInt ∧ a1.toInt ≤ 5) ∨ gI h0 58 a1.toInt = 0))) → Q r h0) : uCall Mt (d + 3) 32 [(.inr (.inr (some 57))), (.inl a1)] h0 kc ks Q := by
  have l_0 : ((0) : Int32).toInt = 0 := by decide
  have l_1 : ((1) : Int32).toInt = 1 := by decide
  have l_5 : ((5) : Int32).toInt = 5 := by decide
  refine uc_ink [some (.inr (.inr (some 57))), some (.inl a1)] mt_32 (Nat.le_of_ble_eq_true rfl) rfl ?_
  refine ur_ldA rfl rfl ?_
  refine ur_ldI rfl rfl ?_
  obtain ⟨hc1, k2⟩ := ok_57 hO0
  refine ur_callv rfl rfl (Nat.le_of_ble_eq_true rfl) (Nat.le_of_ble_eq_true rfl) (rcv_of hc1) (sp_page _ _) ?_
  refine ur_eqB rfl (fun c5 => ?_) (fun c5 => ?_)
  · have t6 := wi_noL c5 l_0 l_5
    refine ur_push rfl ?_
    refine ur_go rfl ?_
    exact ur_ret rfl rfl (hQ _ ⟨true, rfl, fun _ => by omega, fun e => absurd e (by decide)⟩ )
  · have t7 := wi_toL c5 l_0 l_5
    refine ur_ldA rfl rfl ?_
    refine ur_get rfl hc1 rfl ?_
    refine ur_ldI rfl rfl ?_
    obtain ⟨xs9, hc8, hn10, he11⟩ := hO0.int (hO0.fix 58 (by decide) rfl)
    refine ur_aldV rfl hc8 hn10 (by omega) (fun x12 hx13 => ?_)
    have t14 := gI_of (j := a1) hc8 hx13
    refine ur_if1 rfl (fun c15 => ?_) (fun c15 => ?_)
    · have t16 := ne_to c15
      refine ur_push rfl ?_
      exact ur_ret rfl rfl (hQ _ ⟨false, rfl, fun e => absurd e (by decide), fun _ => by omega⟩ )
    · have t17 := ne_no c15
      refine ur_push rfl ?_
      refine ur_go rfl ?_
      exact ur_ret rfl rfl (hQ _ ⟨true, rfl, fun _ => by omega, fun e => absurd e (by decide)⟩ )

set_option maxRecDepth 20000 in
set_option maxHeartbeats 4000000 in
theorem sd_X4_isRow {d kc ks : Nat} {h0 : aH} {Q : Option aV → aH → Prop} (hO0 : OK h0) (a1 : Int32) (hQ : ∀ r, (∃ q, r = some (.inl (bi q)) ∧ (q = true → ((0 ≤ a1.toInt ∧ a1.toInt ≤ 5) ∧ gI h0 58 a1.toInt = 2)) ∧ (q = false → ¬ ((0 ≤ a1.toInt ∧ a1.toInt ≤ 5) ∧ gI h0 58 a1.toInt = 2))) → Q r h0) : uCall Mt (d + 3) 33 [(.inr (.inr (some 57))), (.inl a1)] h0 kc ks Q := by
  have l_0 : ((0) : Int32).toInt = 0 := by decide
  have l_1 : ((1) : Int32).toInt = 1 := by decide
  have l_2 : ((2) : Int32).toInt = 2 := by decide
  have l_5 : ((5) : Int32).toInt = 5 := by decide
  refine uc_ink [some (.inr (.inr (some 57))), some (.inl a1)] mt_33 (Nat.le_of_ble_eq_true rfl) rfl ?_
  refine ur_ldA rfl rfl ?_
  refine ur_ldI rfl rfl ?_
  obtain ⟨hc1, k2⟩ := ok_57 hO0
  refine ur_callv rfl rfl (Nat.le_of_ble_eq_true rfl) (Nat.le_of_ble_eq_true rfl) (rcv_of hc1) (sp_page _ _) ?_
  refine ur_eqB rfl (fun c5 => ?_) (fun c5 => ?_)
  · have t6 := wi_noL c5 l_0 l_5
    refine ur_push rfl ?_
    exact ur_ret rfl rfl (hQ _ ⟨false, rfl, fun e => absurd e (by decide), fun _ => by omega⟩ )
  · have t7 := wi_toL c5 l_0 l_5
    refine ur_ldA rfl rfl ?_
    refine ur_get rfl hc1 rfl ?_
    refine ur_ldI rfl rfl ?_
    obtain ⟨xs9, hc8, hn10, he11⟩ := hO0.int (hO0.fix 58 (by decide) rfl)
    refine ur_aldV rfl hc8 hn10 (by omega) (fun x12 hx13 => ?_)
    have t14 := gI_of (j := a1) hc8 hx13
    refine ur_push rfl ?_
    refine ur_if2 rfl (fun c15 => ?_) (fun c15 => ?_)
    · have t16 := ne_to c15
      refine ur_push rfl ?_
      exact ur_ret rfl rfl (hQ _ ⟨false, rfl, fun e => absurd e (by decide), fun _ => by omega⟩ )
    · have t17 := ne_no c15
      refine ur_push rfl ?_
      refine ur_go rfl ?_
      exact ur_ret rfl rfl (hQ _ ⟨true, rfl, fun _ => by omega, fun e => absurd e (by decide)⟩ )

set_option maxRecDepth 20000 in
set_option maxHeartbeats 4000000 in
theorem sd_X4_holdsShorts {d kc ks : Nat} {h0 : aH} {Q : Option aV → aH → Prop} (hO0 : OK h0) (a1 : Int32) (hQ : ∀ r, (∃ q, r = some (.inl (bi q)) ∧ (q = true → (((0 ≤ a1.toInt ∧ a1.toInt ≤ 5) ∧ gI h0 58 a1.toInt = 2) ∧ gI h0 60 a1.toInt = 1)) ∧ (q = false → ¬ (((0 ≤ a1.toInt ∧ a1.toInt ≤ 5) ∧ gI h0 58 a1.toInt = 2) ∧ gI h0 60 a1.toInt = 1))) → Q r h0) : uCall Mt (d + 4) 34 [(.inr (.inr (some 57))), (.inl a1)] h0 kc ks Q := by
  have l_0 : ((0) : Int32).toInt = 0 := by decide
  have l_1 : ((1) : Int32).toInt = 1 := by decide
  refine uc_ink [some (.inr (.inr (some 57))), some (.inl a1)] mt_34 (Nat.le_of_ble_eq_true rfl) rfl ?_
  refine ur_ldA rfl rfl ?_
  refine ur_ldI rfl rfl ?_
  obtain ⟨hc1, k2⟩ := ok_57 hO0
  refine ur_inl rfl (rcv_of hc1) (Nat.le_of_ble_eq_true rfl) (Nat.le_of_ble_eq_true rfl) (sd_X4_isRow hO0 _ (fun w3 hr4 => ?_))
  obtain ⟨b5, rfl, t6, t7⟩ := hr4
  show uRun _ (uCall Mt _) _ 5 (_, [(.inl (bi b5))], _, _, _)
  refine ur_eqB rfl (fun c8 => ?_) (fun c8 => ?_)
  · have t9 := t7 c8
    clear t6 t7
    refine ur_push rfl ?_
    exact ur_ret rfl rfl (hQ _ ⟨false, rfl, fun e => absurd e (by decide), fun _ => by omega⟩ )
  · have t10 := t6 c8
    clear t6 t7
    refine ur_ldA rfl rfl ?_
    refine ur_get rfl hc1 rfl ?_
    refine ur_ldI rfl rfl ?_
    obtain ⟨xs12, hc11, hn13, he14⟩ := hO0.int (hO0.fix 60 (by decide) rfl)
    refine ur_aldV rfl hc11 hn13 (by omega) (fun x15 hx16 => ?_)
    have t17 := gI_of (j := a1) hc11 hx16
    refine ur_push rfl ?_
    refine ur_if2 rfl (fun c18 => ?_) (fun c18 => ?_)
    · have t19 := ne_to c18
      refine ur_push rfl ?_
      exact ur_ret rfl rfl (hQ _ ⟨false, rfl, fun e => absurd e (by decide), fun _ => by omega⟩ )
    · have t20 := ne_no c18
      refine ur_push rfl ?_
      refine ur_go rfl ?_
      exact ur_ret rfl rfl (hQ _ ⟨true, rfl, fun _ => by omega, fun e => absurd e (by decide)⟩ )

set_option maxRecDepth 20000 in
set_option maxHeartbeats 4000000 in
theorem sd_X4_areRowsOfOneSort {d kc ks : Nat} {h0 : aH} {Q : Option aV → aH → Prop} (hO0 : OK h0) (a1 : Int32) (a2 : Int32) (hQ : ∀ r, (∃ q, r = some (.inl (bi q)) ∧ (q = true → (((0 ≤ a1.toInt ∧ a1.toInt ≤ 5) ∧ gI h0 58 a1.toInt = 2) ∧ ((0 ≤ a2.toInt ∧ a2.toInt ≤ 5) ∧ gI h0 58 a2.toInt = 2) ∧ gI h0 60 a1.toInt = gI h0 60 a2.toInt)) ∧ (q = false → ¬ (((0 ≤ a1.toInt ∧ a1.toInt ≤ 5) ∧ gI h0 58 a1.toInt = 2) ∧ ((0 ≤ a2.toInt ∧ a2.toInt ≤ 5) ∧ gI h0 58 a2.toInt = 2) ∧ gI h0 60 a1.toInt = gI h0 60 a2.toInt))) → Q r h0) : uCall Mt (d + 4) 35 [(.inr (.inr (some 57))), (.inl a1), (.inl a2)] h0 kc ks Q := by
  have l_0 : ((0) : Int32).toInt = 0 := by decide
  have l_1 : ((1) : Int32).toInt = 1 := by decide
  refine uc_ink [some (.inr (.inr (some 57))), some (.inl a1), some (.inl a2)] mt_35 (Nat.le_of_ble_eq_true rfl) rfl ?_
  refine ur_ldA rfl rfl ?_
  refine ur_ldI rfl rfl ?_
  obtain ⟨hc1, k2⟩ := ok_57 hO0
  refine ur_inl rfl (rcv_of hc1) (Nat.le_of_ble_eq_true rfl) (Nat.le_of_ble_eq_true rfl) (sd_X4_isRow hO0 _ (fun w3 hr4 => ?_))
  obtain ⟨b5, rfl, t6, t7⟩ := hr4
  show uRun _ (uCall Mt _) _ 5 (_, [(.inl (bi b5))], _, _, _)
  refine ur_eqB rfl (fun c8 => ?_) (fun c8 => ?_)
  · have t9 := t7 c8
    clear t6 t7
    refine ur_push rfl ?_
    exact ur_ret rfl rfl (hQ _ ⟨false, rfl, fun e => absurd e (by decide), fun _ => by omega⟩ )
  · have t10 := t6 c8
    clear t6 t7
    refine ur_ldA rfl rfl ?_
    refine ur_ldI rfl rfl ?_
    refine ur_inl rfl (rcv_of hc1) (Nat.le_of_ble_eq_true rfl) (Nat.le_of_ble_eq_true rfl) (sd_X4_isRow hO0 _ (fun w11 hr12 => ?_))
    obtain ⟨b13, rfl, t14, t15⟩ := hr12
    show uRun _ (uCall Mt _) _ 13 (_, [(.inl (bi b13))], _, _, _)
    refine ur_eqB rfl (fun c16 => ?_) (fun c16 => ?_)
    · have t17 := t15 c16
      clear t14 t15
      refine ur_push rfl ?_
      exact ur_ret rfl rfl (hQ _ ⟨false, rfl, fun e => absurd e (by decide), fun _ => by omega⟩ )
    · have t18 := t14 c16
      clear t14 t15
      refine ur_ldA rfl rfl ?_
      refine ur_get rfl hc1 rfl ?_
      refine ur_ldI rfl rfl ?_
      obtain ⟨xs20, hc19, hn21, he22⟩ := hO0.int (hO0.fix 60 (by decide) rfl)
      refine ur_aldV rfl hc19 hn21 (by omega) (fun x23 hx24 => ?_)
      have t25 := gI_of (j := a1) hc19 hx24
      refine ur_ldA rfl rfl ?_
      refine ur_get rfl hc1 rfl ?_
      refine ur_ldI rfl rfl ?_
      refine ur_aldV rfl hc19 hn21 (by omega) (fun x26 hx27 => ?_)
      have t28 := gI_of (j := a2) hc19 hx27
      have z29 := any_r x23
      have z30 := any_r x26
      refine ur_if2 rfl (fun c31 => ?_) (fun c31 => ?_)
      · have t32 := ne_to c31
        refine ur_push rfl ?_
        exact ur_ret rfl rfl (hQ _ ⟨false, rfl, fun e => absurd e (by decide), fun _ => by omega⟩ )
      · have t33 := ne_no c31
        refine ur_push rfl ?_
        refine ur_go rfl ?_
        exact ur_ret rfl rfl (hQ _ ⟨true, rfl, fun _ => by omega, fun e => absurd e (by decide)⟩ )

set_option maxRecDepth 20000 in
set_option maxHeartbeats 4000000 in
theorem sd_X4_hasPlaces {d kc ks : Nat} {h0 : aH} {Q : Option aV → aH → Prop} (hO0 : OK h0) (a1 : Int32) (a2 : Int32) (a3 : Int32) (hQ : ∀ r, (∃ q, r = some (.inl (bi q)) ∧ (q = true → ((0 ≤ a1.toInt ∧ a1.toInt ≤ 5) ∧ gI h0 58 a1.toInt = 2 ∧ 0 ≤ a2.toInt ∧ 0 ≤ a3.toInt ∧ a2.toInt ≤ gI h0 61 a1.toInt ∧ a3.toInt ≤ gI h0 61 a1.toInt - a2.toInt)) ∧ (q = false → ¬ ((0 ≤ a1.toInt ∧ a1.toInt ≤ 5) ∧ gI h0 58 a1.toInt = 2 ∧ 0 ≤ a2.toInt ∧ 0 ≤ a3.toInt ∧ a2.toInt ≤ gI h0 61 a1.toInt ∧ a3.toInt ≤ gI h0 61 a1.toInt - a2.toInt))) → Q r h0) : uCall Mt (d + 4) 36 [(.inr (.inr (some 57))), (.inl a1), (.inl a2), (.inl a3)] h0 kc ks Q := by
  have l_0 : ((0) : Int32).toInt = 0 := by decide
  have l_1 : ((1) : Int32).toInt = 1 := by decide
  refine uc_ink [some (.inr (.inr (some 57))), some (.inl a1), some (.inl a2), some (.inl a3)] mt_36 (Nat.le_of_ble_eq_true rfl) rfl ?_
  refine ur_ldA rfl rfl ?_
  refine ur_ldI rfl rfl ?_
  obtain ⟨hc1, k2⟩ := ok_57 hO0
  refine ur_inl rfl (rcv_of hc1) (Nat.le_of_ble_eq_true rfl) (Nat.le_of_ble_eq_true rfl) (sd_X4_isRow hO0 _ (fun w3 hr4 => ?_))
  obtain ⟨b5, rfl, t6, t7⟩ := hr4
  show uRun _ (uCall Mt _) _ 5 (_, [(.inl (bi b5))], _, _, _)
  refine ur_eqB rfl (fun c8 => ?_) (fun c8 => ?_)
  · have t9 := t7 c8
    clear t6 t7
    refine ur_push rfl ?_
    exact ur_ret rfl rfl (hQ _ ⟨false, rfl, fun e => absurd e (by decide), fun _ => by omega⟩ )
  · have t10 := t6 c8
    clear t6 t7
    refine ur_ldI rfl rfl ?_
    refine ur_if1 rfl (fun c11 => ?_) (fun c11 => ?_)
    · have t12 := lt_to c11
      refine ur_push rfl ?_
      exact ur_ret rfl rfl (hQ _ ⟨false, rfl, fun e => absurd e (by decide), fun _ => by omega⟩ )
    · have t13 := lt_no c11
      refine ur_ldI rfl rfl ?_
      refine ur_if1 rfl (fun c14 => ?_) (fun c14 => ?_)
      · have t15 := lt_to c14
        refine ur_push rfl ?_
        exact ur_ret rfl rfl (hQ _ ⟨false, rfl, fun e => absurd e (by decide), fun _ => by omega⟩ )
      · have t16 := lt_no c14
        refine ur_ldI rfl rfl ?_
        refine ur_ldA rfl rfl ?_
        refine ur_get rfl hc1 rfl ?_
        refine ur_ldI rfl rfl ?_
        obtain ⟨xs18, hc17, hn19, he20⟩ := hO0.int (hO0.fix 61 (by decide) rfl)
        refine ur_aldV rfl hc17 hn19 (by omega) (fun x21 hx22 => ?_)
        have t23 := gI_of (j := a1) hc17 hx22
        have t24 : 0 ≤ x21.toInt ∧ x21.toInt ≤ 60 := he20 _ _ hx22
        have z25 := any_r a2
        have z26 := any_r x21
        refine ur_if2 rfl (fun c27 => ?_) (fun c27 => ?_)
        · have t28 := lt_to c27
          refine ur_push rfl ?_
          exact ur_ret rfl rfl (hQ _ ⟨false, rfl, fun e => absurd e (by decide), fun _ => by omega⟩ )
        · have t29 := lt_no c27
          refine ur_ldI rfl rfl ?_
          refine ur_ldA rfl rfl ?_
          refine ur_get rfl hc1 rfl ?_
          refine ur_ldI rfl rfl ?_
          refine ur_aldV rfl hc17 hn19 (by omega) (fun x30 hx31 => ?_)
          obtain rfl : x21 = x30 := Option.some.inj (hx22.symm.trans hx31)
          refine ur_ldI rfl rfl ?_
          refine ur_binV rfl (fun x32 e33 => ?_)
          have t34 := ti_sub e33 (by omega) (by omega)
          have z35 := any_r a3
          have z36 := any_r x32
          refine ur_if2 rfl (fun c37 => ?_) (fun c37 => ?_)
          · have t38 := lt_to c37
            refine ur_push rfl ?_
            exact ur_ret rfl rfl (hQ _ ⟨false, rfl, fun e => absurd e (by decide), fun _ => by omega⟩ )
          · have t39 := lt_no c37
            refine ur_push rfl ?_
            refine ur_go rfl ?_
            exact ur_ret rfl rfl (hQ _ ⟨true, rfl, fun _ => by omega, fun e => absurd e (by decide)⟩ )

set_option maxRecDepth 20000 in
set_option maxHeartbeats 4000000 in
theorem sd_X4_hasFiveFrom {d kc ks : Nat} {h0 : aH} {Q : Option aV → aH → Prop} (hO0 : OK h0) (a1 : Int32) (a2 : Int32) (hQ : ∀ r, (∃ q, r = some (.inl (bi q)) ∧ (q = true → ((0 ≤ a1.toInt ∧ a1.toInt ≤ 5) ∧ gI h0 58 a1.toInt = 2 ∧ 0 ≤ a2.toInt ∧ 0 ≤ 5 ∧ a2.toInt ≤ gI h0 61 a1.toInt ∧ 5 ≤ gI h0 61 a1.toInt - a2.toInt)) ∧ (q = false → ¬ ((0 ≤ a1.toInt ∧ a1.toInt ≤ 5) ∧ gI h0 58 a1.toInt = 2 ∧ 0 ≤ a2.toInt ∧ 0 ≤ 5 ∧ a2.toInt ≤ gI h0 61 a1.toInt ∧ 5 ≤ gI h0 61 a1.toInt - a2.toInt))) → Q r h0) : uCall Mt (d + 5) 37 [(.inr (.inr (some 57))), (.inl a1), (.inl a2)] h0 kc ks Q := by
  have l_5 : ((5) : Int32).toInt = 5 := by decide
  refine uc_ink [some (.inr (.inr (some 57))), some (.inl a1), some (.inl a2)] mt_37 (Nat.le_of_ble_eq_true rfl) rfl ?_
  refine ur_ldA rfl rfl ?_
  refine ur_ldI rfl rfl ?_
  refine ur_ldI rfl rfl ?_
  refine ur_push rfl ?_
  obtain ⟨hc1, k2⟩ := ok_57 hO0
  refine ur_inl rfl (rcv_of hc1) (Nat.le_of_ble_eq_true rfl) (Nat.le_of_ble_eq_true rfl) (sd_X4_hasPlaces hO0 _ _ _ (fun w3 hr4 => ?_))
  obtain ⟨b5, rfl, t6, t7⟩ := hr4
  show uRun _ (uCall Mt _) _ 7 (_, [(.inl (bi b5))], _, _, _)
  exact ur_ret rfl (bi_ret _) (hQ _ ⟨_, rfl, fun w => by have w := t6 w; omega, fun w => by have w := t7 w; omega⟩ )

set_option maxRecDepth 20000 in
set_option maxHeartbeats 4000000 in
theorem sd_X4_refusalOf {d kc ks : Nat} {h0 : aH} {Q : Option aV → aH → Prop} (hO0 : OK h0) (a1 : Int32) (a2 : Int32) (hQ : ∀ r, (∃ x : Int32, r = some (.inl x) ∧ (¬ (0 ≤ a1.toInt ∧ a1.toInt ≤ 5) ∧ x.toInt = -1 ∨ (0 ≤ a1.toInt ∧ a1.toInt ≤ 5) ∧ gI h0 58 a1.toInt = 0 ∧ x.toInt = -11 ∨ (0 ≤ a1.toInt ∧ a1.toInt ≤ 5) ∧ gI h0 58 a1.toInt ≠ 0 ∧ gI h0 58 a1.toInt ≠ 2 ∧ x.toInt = -12 ∨ ((0 ≤ a1.toInt ∧ a1.toInt ≤ 5) ∧ gI h0 58 a1.toInt = 2) ∧ ¬ ((0 ≤ a1.toInt ∧ a1.toInt ≤ 5) ∧ gI h0 58 a1.toInt = 2 ∧ 0 ≤ a2.toInt ∧ a2.toInt < gI h0 61 a1.toInt) ∧ x.toInt = -13 ∨ ((0 ≤ a1.toInt ∧ a1.toInt ≤ 5) ∧ gI h0 58 a1.toInt = 2 ∧ 0 ≤ a2.toInt ∧ a2.toInt < gI h0 61 a1.toInt) ∧ x.toInt = 0)) → Q r h0) : uCall Mt (d + 5) 42 [(.inr (.inr (some 57))), (.inl a1), (.inl a2)] h0 kc ks Q := by
  have l_m13 : ((-13) : Int32).toInt = -13 := by decide
  have l_m12 : ((-12) : Int32).toInt = -12 := by decide
  have l_m11 : ((-11) : Int32).toInt = -11 := by decide
  have l_m1 : ((-1) : Int32).toInt = -1 := by decide
  have l_0 : ((0) : Int32).toInt = 0 := by decide
  have l_1 : ((1) : Int32).toInt = 1 := by decide
  have l_5 : ((5) : Int32).toInt = 5 := by decide
  refine uc_ink [some (.inr (.inr (some 57))), some (.inl a1), some (.inl a2)] mt_42 (Nat.le_of_ble_eq_true rfl) rfl ?_
  refine ur_ldA rfl rfl ?_
  refine ur_ldI rfl rfl ?_
  obtain ⟨hc1, k2⟩ := ok_57 hO0
  refine ur_callv rfl rfl (Nat.le_of_ble_eq_true rfl) (Nat.le_of_ble_eq_true rfl) (rcv_of hc1) (sp_page _ _) ?_
  refine ur_neB rfl (fun c5 => ?_) (fun c5 => ?_)
  · have t6 := wi_toL c5 l_0 l_5
    refine ur_ldA rfl rfl ?_
    refine ur_ldI rfl rfl ?_
    refine ur_inl rfl (rcv_of hc1) (Nat.le_of_ble_eq_true rfl) (Nat.le_of_ble_eq_true rfl) (sd_X4_isEmpty hO0 _ (fun w7 hr8 => ?_))
    obtain ⟨b9, rfl, t10, t11⟩ := hr8
    show uRun _ (uCall Mt _) _ 15 (_, [(.inl (bi b9))], _, _, _)
    refine ur_eqB rfl (fun c12 => ?_) (fun c12 => ?_)
    · have t13 := t11 c12
      clear t10 t11
      refine ur_ldA rfl rfl ?_
      refine ur_ldI rfl rfl ?_
      refine ur_inl rfl (rcv_of hc1) (Nat.le_of_ble_eq_true rfl) (Nat.le_of_ble_eq_true rfl) (sd_X4_isRow hO0 _ (fun w14 hr15 => ?_))
      obtain ⟨b16, rfl, t17, t18⟩ := hr15
      show uRun _ (uCall Mt _) _ 26 (_, [(.inl (bi b16))], _, _, _)
      refine ur_neB rfl (fun c19 => ?_) (fun c19 => ?_)
      · have t20 := t17 c19
        clear t17 t18
        refine ur_ldA rfl rfl ?_
        refine ur_ldI rfl rfl ?_
        refine ur_ldI rfl rfl ?_
        refine ur_push rfl ?_
        refine ur_inl rfl (rcv_of hc1) (Nat.le_of_ble_eq_true rfl) (Nat.le_of_ble_eq_true rfl) (sd_X4_hasPlaces hO0 _ _ _ (fun w21 hr22 => ?_))
        obtain ⟨b23, rfl, t24, t25⟩ := hr22
        show uRun _ (uCall Mt _) _ 39 (_, [(.inl (bi b23))], _, _, _)
        refine ur_eqB rfl (fun c26 => ?_) (fun c26 => ?_)
        · have t27 := t25 c26
          clear t24 t25
          refine ur_push rfl ?_
          exact ur_ret rfl rfl (hQ _ ⟨_, rfl, Or.inr (Or.inr (Or.inr (Or.inl ⟨by omega, by omega, by omega⟩)))⟩ )
        · have t28 := t24 c26
          clear t24 t25
          refine ur_push rfl ?_
          refine ur_go rfl ?_
          exact ur_ret rfl rfl (hQ _ ⟨_, rfl, Or.inr (Or.inr (Or.inr (Or.inr ⟨by omega, by omega⟩)))⟩ )
      · have t29 := t18 c19
        clear t17 t18
        refine ur_push rfl ?_
        exact ur_ret rfl rfl (hQ _ ⟨_, rfl, Or.inr (Or.inr (Or.inl ⟨by omega, by omega, by omega, by omega⟩))⟩ )
    · have t30 := t10 c12
      clear t10 t11
      refine ur_push rfl ?_
      exact ur_ret rfl rfl (hQ _ ⟨_, rfl, Or.inr (Or.inl ⟨by omega, by omega, by omega⟩)⟩ )
  · have t31 := wi_noL c5 l_0 l_5
    refine ur_push rfl ?_
    exact ur_ret rfl rfl (hQ _ ⟨_, rfl, Or.inl ⟨by omega, by omega⟩⟩ )

set_option maxRecDepth 20000 in
set_option maxHeartbeats 4000000 in
theorem sd_X4_read {d kc ks : Nat} {h0 : aH} {Q : Option aV → aH → Prop} (hO0 : OK h0) (a1 : Int32) (a2 : Int32) (hQ : ∀ r, (∃ x : Int64, r = some (.inr (.inl x)) ∧ (((0 ≤ a1.toInt ∧ a1.toInt ≤ 5) ∧ gI h0 58 a1.toInt = 2 ∧ 0 ≤ a2.toInt ∧ a2.toInt < gI h0 61 a1.toInt) → x = gL h0 (63 + a1.toInt.toNat) a2.toInt)) → Q r h0) : uCall Mt (d + 6) 43 [(.inr (.inr (some 57))), (.inl a1), (.inl a2)] h0 kc ks Q := by
  have l_0 : ((0) : Int32).toInt = 0 := by decide
  refine uc_ink [some (.inr (.inr (some 57))), some (.inl a1), some (.inl a2)] mt_43 (Nat.le_of_ble_eq_true rfl) rfl ?_
  have t1 := gI61 hO0 a1.toInt
  refine ur_ldA rfl rfl ?_
  refine ur_ldI rfl rfl ?_
  refine ur_ldI rfl rfl ?_
  obtain ⟨hc2, k3⟩ := ok_57 hO0
  refine ur_inl rfl (rcv_of hc2) (Nat.le_of_ble_eq_true rfl) (Nat.le_of_ble_eq_true rfl) (sd_X4_refusalOf hO0 _ _ (fun w4 hr5 => ?_))
  obtain ⟨x6, rfl, t7⟩ := hr5
  show uRun _ (uCall Mt _) _ 6 (_, [(.inl x6)], _, _, _)
  refine ur_if1 rfl (fun c8 => ?_) (fun c8 => ?_)
  · have t9 := ne_to c8
    refine ur_push rfl ?_
    exact ur_ret rfl rfl (hQ _ ⟨_, rfl, fun q => by exfalso; omega⟩ )
  · have t10 := ne_no c8
    refine ur_ldA rfl rfl ?_
    refine ur_get rfl hc2 rfl ?_
    refine ur_ldI rfl rfl ?_
    refine ur_rowE rfl hO0 (by omega) (fun r11 k12 e13 => ?_)
    refine ur_ldI rfl rfl ?_
    obtain ⟨xs15, hc14, hn16⟩ := hO0.lon k12.2
    refine ur_aldJV rfl hc14 hn16 (by omega) (fun y18 hx19 => ?_)
    have g20 := gL_of (j := a2) hc14 hx19
    refine ur_go rfl ?_
    exact ur_ret rfl rfl (hQ _ ⟨_, rfl, fun _ => by rw [← e13]; exact g20.symm⟩ )
def nrw (s : Int) (v : Int64) : Int64 := if s = 0 then v.toInt32.toInt8.toInt32.toInt64 else if s = 1 then v.toInt32.toInt16.toInt32.toInt64 else if s = 2 then v.toInt32.toInt64 else if s = 4 then (if lg_cmp v 0 = 0 then 0 else 1) else v
theorem nrw_0 {s : Int} {v c : Int64} {a b : Int32} (h : s = 0) (e1 : v.toInt32 = a) (e2 : a.toInt8.toInt32 = b) (e3 : b.toInt64 = c) : c = nrw s v := by
  subst e1 e2 e3
  unfold nrw
  rw [if_pos h]
theorem nrw_1 {s : Int} {v c : Int64} {a b : Int32} (h : s = 1) (e1 : v.toInt32 = a) (e2 : a.toInt16.toInt32 = b) (e3 : b.toInt64 = c) : c = nrw s v := by
  subst e1 e2 e3
  unfold nrw
  rw [if_neg (by omega), if_pos h]
theorem nrw_2 {s : Int} {v c : Int64} {a : Int32} (h : s = 2) (e1 : v.toInt32 = a) (e3 : a.toInt64 = c) : c = nrw s v := by
  subst e1 e3
  unfold nrw
  rw [if_neg (by omega), if_neg (by omega), if_pos h]
theorem nrw_4t {s : Int} {v : Int64} {z : Int32} (h : s = 4) (e : lg_cmp v 0 = z) (hz : z.toInt = 0) : 0 = nrw s v := by
  have hz : z = 0 := Int32.toInt_inj.mp hz
  unfold nrw
  rw [if_neg (by omega), if_neg (by omega), if_neg (by omega), if_pos h, if_pos (e.trans hz)]
theorem nrw_4f {s : Int} {v : Int64} {z : Int32} (h : s = 4) (e : lg_cmp v 0 = z) (hz : ¬ z.toInt = 0) : 1 = nrw s v := by
  unfold nrw
  rw [if_neg (by omega), if_neg (by omega), if_neg (by omega), if_pos h, if_neg (fun q => hz (by rw [← e, q]; rfl))]
theorem nrw_3 {s : Int} {v : Int64} (h : s ≠ 0 ∧ s ≠ 1 ∧ s ≠ 2 ∧ s ≠ 4) : v = nrw s v := by
  unfold nrw
  rw [if_neg h.1, if_neg h.2.1, if_neg h.2.2.1, if_neg h.2.2.2]
set_option maxRecDepth 20000 in
set_option maxHeartbeats 4000000 in
theorem sd_X4_narrowed {d kc ks : Nat} {h0 : aH} {Q : Option aV → aH → Prop} (hO0 : OK h0) (a0 : Int32) (a1 : Int64) (hQ : ∀ r, (∃ x : Int64, r = some (.inr (.inl x)) ∧ (x = nrw a0.toInt a1)) → Q r h0) : uCall Mt (d + 1) 46 [(.inl a0), (.inr (.inl a1))] h0 kc ks Q := by
  have l_0 : ((0) : Int32).toInt = 0 := by decide
  refine uc_ink [some (.inl a0), some (.inr (.inl a1)), none] mt_46 (Nat.le_of_ble_eq_true rfl) rfl ?_
  refine ur_ldI rfl rfl ?_
  rcases (show (a0.toInt < 0 ∨ 4 < a0.toInt) ∨ a0.toInt = 0 ∨ a0.toInt = 1 ∨ a0.toInt = 2 ∨ a0.toInt = 3 ∨ a0.toInt = 4 by omega) with t1 | t1 | t1 | t1 | t1 | t1
  · refine ur_tabO rfl (by show a0.toInt < 0 ∨ 0 + 5 ≤ a0.toInt; omega) ?_
    refine ur_ldJ rfl rfl ?_
    exact ur_ret rfl rfl (hQ _ ⟨_, rfl, nrw_3 (by omega)⟩ )
  · refine ur_tabI rfl (by omega) (by rw [t1]; rfl) ?_
    refine ur_ldJ rfl rfl ?_
    refine ur_l2iV rfl (fun x2 e3 => ?_)
    refine ur_unV rfl (fun x4 e5 => ?_)
    refine ur_i2lV rfl (fun y6 e7 => ?_)
    exact ur_ret rfl rfl (hQ _ ⟨_, rfl, nrw_0 (by omega) e3 e5 e7⟩ )
  · refine ur_tabI rfl (by omega) (by rw [t1]; rfl) ?_
    refine ur_ldJ rfl rfl ?_
    refine ur_l2iV rfl (fun x8 e9 => ?_)
    refine ur_unV rfl (fun x10 e11 => ?_)
    refine ur_i2lV rfl (fun y12 e13 => ?_)
    exact ur_ret rfl rfl (hQ _ ⟨_, rfl, nrw_1 (by omega) e9 e11 e13⟩ )
  · refine ur_tabI rfl (by omega) (by rw [t1]; rfl) ?_
    refine ur_ldJ rfl rfl ?_
    refine ur_l2iV rfl (fun x14 e15 => ?_)
    refine ur_i2lV rfl (fun y16 e17 => ?_)
    exact ur_ret rfl rfl (hQ _ ⟨_, rfl, nrw_2 (by omega) e15 e17⟩ )
  · refine ur_tabI rfl (by omega) (by rw [t1]; rfl) ?_
    refine ur_ldJ rfl rfl ?_
    exact ur_ret rfl rfl (hQ _ ⟨_, rfl, nrw_3 (by omega)⟩ )
  · refine ur_tabI rfl (by omega) (by rw [t1]; rfl) ?_
    refine ur_ldJ rfl rfl ?_
    refine ur_push rfl ?_
    refine ur_cmpJV rfl (fun x18 e19 => ?_)
    refine ur_if1 rfl (fun c20 => ?_) (fun c20 => ?_)
    · have t21 := eq_to c20
      refine ur_push rfl ?_
      exact ur_ret rfl rfl (hQ _ ⟨_, rfl, nrw_4t (by omega) e19 (by omega)⟩ )
    · have t22 := eq_no c20
      refine ur_push rfl ?_
      refine ur_go rfl ?_
      exact ur_ret rfl rfl (hQ _ ⟨_, rfl, nrw_4f (by omega) e19 (by omega)⟩ )

set_option maxRecDepth 20000 in
set_option maxHeartbeats 4000000 in
theorem sd_X4_write {d kc ks : Nat} {h0 : aH} {Q : Option aV → aH → Prop} (hO0 : OK h0) (a1 : Int32) (a2 : Int32) (a3 : Int64) (pre0 : ((0 ≤ a1.toInt ∧ a1.toInt ≤ 5) ∧ gI h0 58 a1.toInt = 2 ∧ 0 ≤ a2.toInt ∧ a2.toInt < gI h0 61 a1.toInt)) (hQ : ∀ r h', (r = none) → OK h' → un [63, 64, 65, 66, 67, 68] h0 h' → (wJ h0 h' (63 + a1.toInt.toNat) ((arJ h0 (63 + a1.toInt.toNat)).set a2.toInt.toNat (nrw (gI h0 60 a1.toInt) a3))) → Q r h') : uCall Mt (d + 6) 44 [(.inr (.inr (some 57))), (.inl a1), (.inl a2), (.inr (.inl a3))] h0 kc ks Q := by
  have l_0 : ((0) : Int32).toInt = 0 := by decide
  refine uc_ink [some (.inr (.inr (some 57))), some (.inl a1), some (.inl a2), some (.inr (.inl a3)), none] mt_44 (Nat.le_of_ble_eq_true rfl) rfl ?_
  have t1 := gI61 hO0 a1.toInt
  refine ur_ldA rfl rfl ?_
  refine ur_ldI rfl rfl ?_
  refine ur_ldI rfl rfl ?_
  obtain ⟨hc2, k3⟩ := ok_57 hO0
  refine ur_inl rfl (rcv_of hc2) (Nat.le_of_ble_eq_true rfl) (Nat.le_of_ble_eq_true rfl) (sd_X4_refusalOf hO0 _ _ (fun w4 hr5 => ?_))
  obtain ⟨x6, rfl, t7⟩ := hr5
  show uRun _ (uCall Mt _) _ 6 (_, [(.inl x6)], _, _, _)
  refine ur_if1 rfl (fun c8 => ?_) (fun c8 => ?_)
  · have t9 := ne_to c8
    exfalso
    omega
  · have t10 := ne_no c8
    refine ur_ldA rfl rfl ?_
    refine ur_get rfl hc2 rfl ?_
    refine ur_ldI rfl rfl ?_
    refine ur_rowE rfl hO0 (by omega) (fun r11 k12 e13 => ?_)
    refine ur_ldI rfl rfl ?_
    refine ur_ldA rfl rfl ?_
    refine ur_get rfl hc2 rfl ?_
    refine ur_ldI rfl rfl ?_
    obtain ⟨xs15, hc14, hn16, he17⟩ := hO0.int (hO0.fix 60 (by decide) rfl)
    refine ur_aldV rfl hc14 hn16 (by omega) (fun x18 hx19 => ?_)
    have t20 := gI_of (j := a1) hc14 hx19
    refine ur_ldJ rfl rfl ?_
    refine ur_inl rfl rfl (Nat.le_of_ble_eq_true rfl) (Nat.le_of_ble_eq_true rfl) (sd_X4_narrowed hO0 _ _ (fun w21 hr22 => ?_))
    obtain ⟨y23, rfl, f24⟩ := hr22
    show uRun _ (uCall Mt _) _ 26 (_, [(.inr (.inl y23)), (.inl a2), (.inr (.inr (some r11)))], _, _, _)
    obtain ⟨xs26, hc25, hn27⟩ := hO0.lon k12.2
    refine ur_astJV (W := [63, 64, 65, 66, 67, 68]) (m := 60) rfl hO0 hc25 hn27 (by omega) (Or.inr (Or.inr (wid_row k12.1 (by decide)))) (fun h31 hO31 hu31 d29 hc30 => ?_)
    have w32 : wJ h0 h31 r11 ((arJ h0 r11).set (a2 : Int32).toInt.toNat y23) := ⟨by rw [arJ_of hc30, arJ_of hc25], d29⟩
    exact ur_ret0 rfl (hQ _ _ rfl hO31 hu31 (by rw [← e13, show gI h0 60 a1.toInt = _ from t20, ← f24]; exact w32))

set_option maxRecDepth 20000 in
set_option maxHeartbeats 4000000 in
theorem sd_X11_put {d kc ks : Nat} {h0 : aH} {Q : Option aV → aH → Prop} (hO0 : OK h0) (a1 : Int32) (a2 : Int32) (a3 : Int64) (hQ : ∀ r h', (∃ x : Int32, r = some (.inl x) ∧ (¬ (0 ≤ a1.toInt ∧ a1.toInt ≤ 5) ∧ x.toInt = -1 ∨ (0 ≤ a1.toInt ∧ a1.toInt ≤ 5) ∧ gI h0 58 a1.toInt = 0 ∧ x.toInt = -11 ∨ (0 ≤ a1.toInt ∧ a1.toInt ≤ 5) ∧ gI h0 58 a1.toInt ≠ 0 ∧ gI h0 58 a1.toInt ≠ 2 ∧ x.toInt = -12 ∨ ((0 ≤ a1.toInt ∧ a1.toInt ≤ 5) ∧ gI h0 58 a1.toInt = 2) ∧ ¬ ((0 ≤ a1.toInt ∧ a1.toInt ≤ 5) ∧ gI h0 58 a1.toInt = 2 ∧ 0 ≤ a2.toInt ∧ a2.toInt < gI h0 61 a1.toInt) ∧ x.toInt = -13 ∨ ((0 ≤ a1.toInt ∧ a1.toInt ≤ 5) ∧ gI h0 58 a1.toInt = 2 ∧ 0 ≤ a2.toInt ∧ a2.toInt < gI h0 61 a1.toInt) ∧ x.toInt = 1)) → OK h' → un [63, 64, 65, 66, 67, 68] h0 h' → ((((0 ≤ a1.toInt ∧ a1.toInt ≤ 5) ∧ gI h0 58 a1.toInt = 2 ∧ 0 ≤ a2.toInt ∧ a2.toInt < gI h0 61 a1.toInt) → wJ h0 h' (63 + a1.toInt.toNat) ((arJ h0 (63 + a1.toInt.toNat)).set a2.toInt.toNat (nrw (gI h0 60 a1.toInt) a3))) ∧ (¬ ((0 ≤ a1.toInt ∧ a1.toInt ≤ 5) ∧ gI h0 58 a1.toInt = 2 ∧ 0 ≤ a2.toInt ∧ a2.toInt < gI h0 61 a1.toInt) → h' = h0)) → Q r h') : uCall Mt (d + 7) 161 [(.inr (.inr (some 0))), (.inl a1), (.inl a2), (.inr (.inl a3))] h0 kc ks Q := by
  have l_0 : ((0) : Int32).toInt = 0 := by decide
  have l_1 : ((1) : Int32).toInt = 1 := by decide
  refine uc_ink [some (.inr (.inr (some 0))), some (.inl a1), some (.inl a2), some (.inr (.inl a3)), none, none] mt_161 (Nat.le_of_ble_eq_true rfl) rfl ?_
  refine ur_ldA rfl rfl ?_
  obtain ⟨hc1, k2⟩ := ok_0 hO0
  refine ur_get rfl hc1 rfl ?_
  refine ur_ldI rfl rfl ?_
  refine ur_ldI rfl rfl ?_
  obtain ⟨hc3, k4⟩ := ok_57 hO0
  refine ur_inl rfl (rcv_of hc3) (Nat.le_of_ble_eq_true rfl) (Nat.le_of_ble_eq_true rfl) (sd_X4_refusalOf hO0 _ _ (fun w5 hr6 => ?_))
  obtain ⟨x7, rfl, t8⟩ := hr6
  show uRun _ (uCall Mt _) _ 9 (_, [(.inl x7)], _, _, _)
  refine ur_svIk [some (.inr (.inr (some 0))), some (.inl a1), some (.inl a2), some (.inr (.inl a3)), none, some (.inl x7)] rfl rfl ?_
  refine ur_ldI rfl rfl ?_
  refine ur_if1 rfl (fun c9 => ?_) (fun c9 => ?_)
  · have t10 := eq_to c9
    refine ur_ldA rfl rfl ?_
    refine ur_get rfl hc1 rfl ?_
    refine ur_ldI rfl rfl ?_
    refine ur_ldI rfl rfl ?_
    refine ur_ldJ rfl rfl ?_
    refine ur_inl rfl (rcv_of hc3) (Nat.le_of_ble_eq_true rfl) (Nat.le_of_ble_eq_true rfl) (sd_X4_write hO0 _ _ _ (by omega) (fun w11 h14 hr12 hO14 hv14 hp13 => ?_))
    have hu14 := hv14
    subst hr12
    show uRun _ (uCall Mt _) _ 29 (_, [], _, _, _)
    refine ur_push rfl ?_
    exact ur_ret rfl rfl (hQ _ _ ⟨_, rfl, Or.inr (Or.inr (Or.inr (Or.inr ⟨by omega, by omega⟩)))⟩ hO14 hu14 ⟨fun _ => hp13, fun q => absurd (by omega) q⟩)
  · have t15 := eq_no c9
    refine ur_ldI rfl rfl ?_
    exact ur_ret rfl rfl (hQ _ _ ⟨_, rfl, by omega⟩ hO0 un.rf ⟨fun q => by exfalso; omega, fun _ => rfl⟩)

set_option maxRecDepth 20000 in
set_option maxHeartbeats 4000000 in
theorem sd_X11_element {d kc ks : Nat} {h0 : aH} {Q : Option aV → aH → Prop} (hO0 : OK h0) (a1 : Int32) (a2 : Int32) (hQ : ∀ r, (∃ x : Int64, r = some (.inr (.inl x)) ∧ ((((0 ≤ a1.toInt ∧ a1.toInt ≤ 5) ∧ gI h0 58 a1.toInt = 2 ∧ 0 ≤ a2.toInt ∧ a2.toInt < gI h0 61 a1.toInt) → x = gL h0 (63 + a1.toInt.toNat) a2.toInt) ∧ (¬ ((0 ≤ a1.toInt ∧ a1.toInt ≤ 5) ∧ gI h0 58 a1.toInt = 2 ∧ 0 ≤ a2.toInt ∧ a2.toInt < gI h0 61 a1.toInt) → x = -9223372036854775808))) → Q r h0) : uCall Mt (d + 7) 162 [(.inr (.inr (some 0))), (.inl a1), (.inl a2)] h0 kc ks Q := by
  have l_0 : ((0) : Int32).toInt = 0 := by decide
  refine uc_ink [some (.inr (.inr (some 0))), some (.inl a1), some (.inl a2)] mt_162 (Nat.le_of_ble_eq_true rfl) rfl ?_
  refine ur_ldA rfl rfl ?_
  obtain ⟨hc1, k2⟩ := ok_0 hO0
  refine ur_get rfl hc1 rfl ?_
  refine ur_ldI rfl rfl ?_
  refine ur_ldI rfl rfl ?_
  obtain ⟨hc3, k4⟩ := ok_57 hO0
  refine ur_inl rfl (rcv_of hc3) (Nat.le_of_ble_eq_true rfl) (Nat.le_of_ble_eq_true rfl) (sd_X4_refusalOf hO0 _ _ (fun w5 hr6 => ?_))
  obtain ⟨x7, rfl, t8⟩ := hr6
  show uRun _ (uCall Mt _) _ 9 (_, [(.inl x7)], _, _, _)
  refine ur_if1 rfl (fun c9 => ?_) (fun c9 => ?_)
  · have t10 := eq_to c9
    refine ur_ldA rfl rfl ?_
    refine ur_get rfl hc1 rfl ?_
    refine ur_ldI rfl rfl ?_
    refine ur_ldI rfl rfl ?_
    refine ur_inl rfl (rcv_of hc3) (Nat.le_of_ble_eq_true rfl) (Nat.le_of_ble_eq_true rfl) (sd_X4_read hO0 _ _ (fun w11 hr12 => ?_))
    obtain ⟨y13, rfl, f14⟩ := hr12
    show uRun _ (uCall Mt _) _ 25 (_, [(.inr (.inl y13))], _, _, _)
    exact ur_ret rfl rfl (hQ _ ⟨_, rfl, ⟨f14, fun q => absurd (by omega) q⟩⟩ )
  · have t15 := eq_no c9
    refine ur_push rfl ?_
    exact ur_ret rfl rfl (hQ _ ⟨_, rfl, ⟨fun q => by exfalso; omega, fun _ => rfl⟩⟩ )

set_option maxRecDepth 20000 in
set_option maxHeartbeats 4000000 in
theorem sd_X4_keepNothing {d kc ks : Nat} {h0 : aH} {Q : Option aV → aH → Prop} (hO0 : OK h0) (a1 : Int32) (pre0 : (0 ≤ a1.toInt ∧ a1.toInt ≤ 5)) (hQ : ∀ r h', (r = none) → OK h' → un [58] h0 h' → (wI h0 h' 58 ((arI h0 58).set a1.toInt.toNat 0)) → Q r h') : uCall Mt (d + 3) 39 [(.inr (.inr (some 57))), (.inl a1)] h0 kc ks Q := by
  have l_0 : ((0) : Int32).toInt = 0 := by decide
  have l_5 : ((5) : Int32).toInt = 5 := by decide
  refine uc_ink [some (.inr (.inr (some 57))), some (.inl a1)] mt_39 (Nat.le_of_ble_eq_true rfl) rfl ?_
  refine ur_ldA rfl rfl ?_
  refine ur_ldI rfl rfl ?_
  obtain ⟨hc1, k2⟩ := ok_57 hO0
  refine ur_callv rfl rfl (Nat.le_of_ble_eq_true rfl) (Nat.le_of_ble_eq_true rfl) (rcv_of hc1) (sp_page _ _) ?_
  refine ur_eqB rfl (fun c5 => ?_) (fun c5 => ?_)
  · have t6 := wi_noL c5 l_0 l_5
    exfalso
    omega
  · have t7 := wi_toL c5 l_0 l_5
    refine ur_ldA rfl rfl ?_
    refine ur_get rfl hc1 rfl ?_
    refine ur_ldI rfl rfl ?_
    refine ur_push rfl ?_
    obtain ⟨xs9, hc8, hn10, he11⟩ := hO0.int (hO0.fix 58 (by decide) rfl)
    refine ur_astV (W := [58]) (m := 6) rfl hO0 hc8 (by decide) hn10 (by omega) (any_r _) (Or.inr (Or.inr (wid_fix (by decide) (by decide)))) (fun h14 hO14 hu14 d12 hc13 => ?_)
    have w15 : wI h0 h14 58 ((arI h0 58).set (a1 : Int32).toInt.toNat 0) := ⟨by rw [arI_of hc13, arI_of hc8], d12⟩
    exact ur_ret0 rfl (hQ _ _ rfl hO14 hu14 w15)

set_option maxRecDepth 20000 in
set_option maxHeartbeats 4000000 in
theorem sd_X4_keepWord {d kc ks : Nat} {h0 : aH} {Q : Option aV → aH → Prop} (hO0 : OK h0) (a1 : Int32) (a2 : Int32) (pre0 : (0 ≤ a1.toInt ∧ a1.toInt ≤ 5)) (hQ : ∀ r h', (r = none) → OK h' → un [58, 59] h0 h' → (∃ h1, OK h1 ∧ wI h0 h1 58 ((arI h0 58).set a1.toInt.toNat 1) ∧ wI h1 h' 59 ((arI h1 59).set a1.toInt.toNat a2)) → Q r h') : uCall Mt (d + 3) 40 [(.inr (.inr (some 57))), (.inl a1), (.inl a2)] h0 kc ks Q := by
  have l_0 : ((0) : Int32).toInt = 0 := by decide
  have l_1 : ((1) : Int32).toInt = 1 := by decide
  have l_5 : ((5) : Int32).toInt = 5 := by decide
  refine uc_ink [some (.inr (.inr (some 57))), some (.inl a1), some (.inl a2)] mt_40 (Nat.le_of_ble_eq_true rfl) rfl ?_
  refine ur_ldA rfl rfl ?_
  refine ur_ldI rfl rfl ?_
  obtain ⟨hc1, k2⟩ := ok_57 hO0
  refine ur_callv rfl rfl (Nat.le_of_ble_eq_true rfl) (Nat.le_of_ble_eq_true rfl) (rcv_of hc1) (sp_page _ _) ?_
  refine ur_neB rfl (fun c5 => ?_) (fun c5 => ?_)
  · have t6 := wi_toL c5 l_0 l_5
    refine ur_ldA rfl rfl ?_
    refine ur_get rfl hc1 rfl ?_
    refine ur_ldI rfl rfl ?_
    refine ur_push rfl ?_
    obtain ⟨xs8, hc7, hn9, he10⟩ := hO0.int (hO0.fix 58 (by decide) rfl)
    refine ur_astV (W := [58, 59]) (m := 6) rfl hO0 hc7 (by decide) hn9 (by omega) (any_r _) (Or.inr (Or.inr (wid_fix (by decide) (by decide)))) (fun h13 hO13 hu13 d11 hc12 => ?_)
    have w14 : wI h0 h13 58 ((arI h0 58).set (a1 : Int32).toInt.toNat 1) := ⟨by rw [arI_of hc12, arI_of hc7], d11⟩
    refine ur_ldA rfl rfl ?_
    refine ur_get rfl ((d11 _ (by decide)).trans hc1) rfl ?_
    refine ur_ldI rfl rfl ?_
    refine ur_ldI rfl rfl ?_
    obtain ⟨xs16, hc15, hn17, he18⟩ := hO13.int (hO13.fix 59 (by decide) rfl)
    refine ur_astV (W := [58, 59]) (m := 6) rfl hO13 hc15 (by decide) hn17 (by omega) (any_r _) (Or.inr (Or.inr (wid_fix (by decide) (by decide)))) (fun h21 hO21 hu21 d19 hc20 => ?_)
    have w22 : wI h13 h21 59 ((arI h13 59).set (a1 : Int32).toInt.toNat a2) := ⟨by rw [arI_of hc20, arI_of hc15], d19⟩
    exact ur_ret0 rfl (hQ _ _ rfl hO21 (hu13.tr hu21) ⟨_, hO13, w14, w22⟩)
  · have t23 := wi_noL c5 l_0 l_5
    exfalso
    omega

set_option maxRecDepth 20000 in
set_option maxHeartbeats 4000000 in
theorem sd_X4_keepRow {d kc ks : Nat} {h0 : aH} {Q : Option aV → aH → Prop} (hO0 : OK h0) (a1 : Int32) (a2 : Int32) (a3 : Int32) (b3 : 0 ≤ a3.toInt ∧ a3.toInt ≤ 60) (pre0 : (0 ≤ a1.toInt ∧ a1.toInt ≤ 5)) (hQ : ∀ r h', (r = none) → OK h' → un [58, 60, 61, 63, 64, 65, 66, 67, 68] h0 h' → (∃ h1 h2 h3, OK h1 ∧ OK h2 ∧ wI h0 h1 58 ((arI h0 58).set a1.toInt.toNat 2) ∧ wI h1 h2 60 ((arI h1 60).set a1.toInt.toNat a2) ∧ wI h2 h3 61 ((arI h2 61).set a1.toInt.toNat a3) ∧ wJ h3 h' (63 + a1.toInt.toNat) (List.replicate 60 0)) → Q r h') : uCall Mt (d + 3) 41 [(.inr (.inr (some 57))), (.inl a1), (.inl a2), (.inl a3)] h0 kc ks Q := by
  have l_0 : ((0) : Int32).toInt = 0 := by decide
  have l_2 : ((2) : Int32).toInt = 2 := by decide
  have l_5 : ((5) : Int32).toInt = 5 := by decide
  refine uc_ink [some (.inr (.inr (some 57))), some (.inl a1), some (.inl a2), some (.inl a3)] mt_41 (Nat.le_of_ble_eq_true rfl) rfl ?_
  refine ur_ldA rfl rfl ?_
  refine ur_ldI rfl rfl ?_
  obtain ⟨hc1, k2⟩ := ok_57 hO0
  refine ur_callv rfl rfl (Nat.le_of_ble_eq_true rfl) (Nat.le_of_ble_eq_true rfl) (rcv_of hc1) (sp_page _ _) ?_
  refine ur_neB rfl (fun c5 => ?_) (fun c5 => ?_)
  · have t6 := wi_toL c5 l_0 l_5
    refine ur_ldA rfl rfl ?_
    refine ur_get rfl hc1 rfl ?_
    refine ur_ldI rfl rfl ?_
    refine ur_push rfl ?_
    obtain ⟨xs8, hc7, hn9, he10⟩ := hO0.int (hO0.fix 58 (by decide) rfl)
    refine ur_astV (W := [58, 60, 61, 63, 64, 65, 66, 67, 68]) (m := 6) rfl hO0 hc7 (by decide) hn9 (by omega) (any_r _) (Or.inr (Or.inr (wid_fix (by decide) (by decide)))) (fun h13 hO13 hu13 d11 hc12 => ?_)
    have w14 : wI h0 h13 58 ((arI h0 58).set (a1 : Int32).toInt.toNat 2) := ⟨by rw [arI_of hc12, arI_of hc7], d11⟩
    refine ur_ldA rfl rfl ?_
    refine ur_get rfl ((d11 _ (by decide)).trans hc1) rfl ?_
    refine ur_ldI rfl rfl ?_
    refine ur_ldI rfl rfl ?_
    obtain ⟨xs16, hc15, hn17, he18⟩ := hO13.int (hO13.fix 60 (by decide) rfl)
    refine ur_astV (W := [58, 60, 61, 63, 64, 65, 66, 67, 68]) (m := 6) rfl hO13 hc15 (by decide) hn17 (by omega) (any_r _) (Or.inr (Or.inr (wid_fix (by decide) (by decide)))) (fun h21 hO21 hu21 d19 hc20 => ?_)
    have w22 : wI h13 h21 60 ((arI h13 60).set (a1 : Int32).toInt.toNat a2) := ⟨by rw [arI_of hc20, arI_of hc15], d19⟩
    refine ur_ldA rfl rfl ?_
    refine ur_get rfl ((d19 _ (by decide)).trans ((d11 _ (by decide)).trans hc1)) rfl ?_
    refine ur_ldI rfl rfl ?_
    refine ur_ldI rfl rfl ?_
    obtain ⟨xs24, hc23, hn25, he26⟩ := hO21.int (hO21.fix 61 (by decide) rfl)
    refine ur_astV (W := [58, 60, 61, 63, 64, 65, 66, 67, 68]) (m := 6) rfl hO21 hc23 (by decide) hn25 (by omega) (by show 0 ≤ a3.toInt ∧ a3.toInt ≤ 60; omega) (Or.inr (Or.inr (wid_fix (by decide) (by decide)))) (fun h29 hO29 hu29 d27 hc28 => ?_)
    have w30 : wI h21 h29 61 ((arI h21 61).set (a1 : Int32).toInt.toNat a3) := ⟨by rw [arI_of hc28, arI_of hc23], d27⟩
    refine ur_ldA rfl rfl ?_
    refine ur_get rfl ((d27 _ (by decide)).trans ((d19 _ (by decide)).trans ((d11 _ (by decide)).trans hc1))) rfl ?_
    refine ur_ldI rfl rfl ?_
    refine ur_rowE rfl hO29 (by omega) (fun r31 k32 e33 => ?_)
    refine ur_push rfl ?_
    obtain ⟨xs35, hc34, hn36⟩ := hO29.lon k32.2
    refine ur_inl rfl rfl (Nat.le_of_ble_eq_true rfl) (Nat.le_of_ble_eq_true rfl) (sd_fillJ (W := [58, 60, 61, 63, 64, 65, 66, 67, 68]) hO29 hc34 hn36 (by decide) (Or.inr (Or.inr (wid_row k32.1 (by decide)))) (fun h39 hO39 hu39 d38 hc40 => ?_))
    have w41 : wJ h29 h39 r31 (List.replicate 60 0) := ⟨arJ_of hc40, d38⟩
    show uRun _ (uCall Mt _) _ 40 (_, [], _, _, _)
    exact ur_ret0 rfl (hQ _ _ rfl hO39 (hu13.tr (hu21.tr (hu29.tr hu39))) ⟨_, _, _, hO13, hO21, w14, w22, w30, (by rw [← e33]; exact w41)⟩)
  · have t42 := wi_noL c5 l_0 l_5
    exfalso
    omega

set_option maxRecDepth 20000 in
set_option maxHeartbeats 4000000 in
theorem se_X11_row {d kc ks : Nat} {h0 : aH} {Q : Option aV → aH → Prop} (hO0 : OK h0) (a1 : Int32) (a2 : Int32) (a3 : Int32) (hQ : ∀ r h', (∃ x : Int32, r = some (.inl x) ∧ (x.toInt = 1 ∧ ((0 ≤ a1.toInt ∧ a1.toInt ≤ 5) ∧ (0 ≤ a2.toInt ∧ a2.toInt ≤ 4) ∧ a3.toInt ≤ 60) ∧ 0 ≤ a3.toInt ∨ x.toInt = -14 ∧ ((0 ≤ a1.toInt ∧ a1.toInt ≤ 5) ∧ (0 ≤ a2.toInt ∧ a2.toInt ≤ 4) ∧ a3.toInt ≤ 60) ∧ a3.toInt < 0 ∨ x.toInt = -1 ∧ ¬ ((0 ≤ a1.toInt ∧ a1.toInt ≤ 5) ∧ (0 ≤ a2.toInt ∧ a2.toInt ≤ 4) ∧ a3.toInt ≤ 60))) → OK h' → un [58, 60, 61, 63, 64, 65, 66, 67, 68] h0 h' → ((((0 ≤ a1.toInt ∧ a1.toInt ≤ 5) ∧ (0 ≤ a2.toInt ∧ a2.toInt ≤ 4) ∧ 0 ≤ a3.toInt ∧ a3.toInt ≤ 60) → ∃ h1 h2 h3, OK h1 ∧ OK h2 ∧ wI h0 h1 58 ((arI h0 58).set a1.toInt.toNat 2) ∧ wI h1 h2 60 ((arI h1 60).set a1.toInt.toNat a2) ∧ wI h2 h3 61 ((arI h2 61).set a1.toInt.toNat a3) ∧ wJ h3 h' (63 + a1.toInt.toNat) (List.replicate 60 0)) ∧ (¬ ((0 ≤ a1.toInt ∧ a1.toInt ≤ 5) ∧ (0 ≤ a2.toInt ∧ a2.toInt ≤ 4) ∧ 0 ≤ a3.toInt ∧ a3.toInt ≤ 60) → h' = h0)) → Q r h') : uCall Mt (d + 4) 160 [(.inr (.inr (some 0))), (.inl a1), (.inl a2), (.inl a3)] h0 kc ks Q := by
  have l_m14 : ((-14) : Int32).toInt = -14 := by decide
  have l_m1 : ((-1) : Int32).toInt = -1 := by decide
  have l_0 : ((0) : Int32).toInt = 0 := by decide
  have l_1 : ((1) : Int32).toInt = 1 := by decide
  have l_4 : ((4) : Int32).toInt = 4 := by decide
  have l_5 : ((5) : Int32).toInt = 5 := by decide
  have l_60 : ((60) : Int32).toInt = 60 := by decide
  refine uc_ink [some (.inr (.inr (some 0))), some (.inl a1), some (.inl a2), some (.inl a3)] mt_160 (Nat.le_of_ble_eq_true rfl) rfl ?_
  refine ur_ldA rfl rfl ?_
  obtain ⟨hc1, k2⟩ := ok_0 hO0
  refine ur_get rfl hc1 rfl ?_
  refine ur_ldI rfl rfl ?_
  obtain ⟨hc3, k4⟩ := ok_57 hO0
  refine ur_callv rfl rfl (Nat.le_of_ble_eq_true rfl) (Nat.le_of_ble_eq_true rfl) (rcv_of hc3) (sp_page _ _) ?_
  refine ur_eqB rfl (fun c7 => ?_) (fun c7 => ?_)
  · have t8 := wi_noL c7 l_0 l_5
    refine ur_push rfl ?_
    exact ur_ret rfl rfl (hQ _ _ ⟨_, rfl, Or.inr (Or.inr ⟨by omega, by omega⟩)⟩ hO0 un.rf ⟨fun q => by exfalso; omega, fun _ => rfl⟩)
  · have t9 := wi_toL c7 l_0 l_5
    refine ur_ldI rfl rfl ?_
    refine ur_push rfl ?_
    refine ur_push rfl ?_
    refine ur_callv rfl rfl (Nat.le_of_ble_eq_true rfl) (Nat.le_of_ble_eq_true rfl) rfl (sp_within _ _ _ _ _) ?_
    refine ur_eqB rfl (fun c12 => ?_) (fun c12 => ?_)
    · have t13 := wi_noL c12 l_0 l_4
      refine ur_push rfl ?_
      exact ur_ret rfl rfl (hQ _ _ ⟨_, rfl, Or.inr (Or.inr ⟨by omega, by omega⟩)⟩ hO0 un.rf ⟨fun q => by exfalso; omega, fun _ => rfl⟩)
    · have t14 := wi_toL c12 l_0 l_4
      refine ur_ldI rfl rfl ?_
      refine ur_push rfl ?_
      refine ur_if2 rfl (fun c15 => ?_) (fun c15 => ?_)
      · have t16 := le_to c15
        refine ur_ldI rfl rfl ?_
        refine ur_if1 rfl (fun c17 => ?_) (fun c17 => ?_)
        · have t18 := le_to c17
          refine ur_ldA rfl rfl ?_
          refine ur_get rfl hc1 rfl ?_
          refine ur_ldI rfl rfl ?_
          refine ur_ldI rfl rfl ?_
          refine ur_ldI rfl rfl ?_
          refine ur_inl rfl (rcv_of hc3) (Nat.le_of_ble_eq_true rfl) (Nat.le_of_ble_eq_true rfl) (sd_X4_keepRow hO0 _ _ _ (by show 0 ≤ a3.toInt ∧ a3.toInt ≤ 60; omega) (by omega) (fun w19 h22 hr20 hO22 hv22 hp21 => ?_))
          have hu22 := hv22
          subst hr20
          show uRun _ (uCall Mt _) _ 45 (_, [], _, _, _)
          refine ur_push rfl ?_
          exact ur_ret rfl rfl (hQ _ _ ⟨_, rfl, Or.inl ⟨by omega, by omega, by omega⟩⟩ hO22 hu22 ⟨fun _ => hp21, fun q => absurd (by omega) q⟩)
        · have t23 := le_no c17
          refine ur_push rfl ?_
          exact ur_ret rfl rfl (hQ _ _ ⟨_, rfl, Or.inr (Or.inl ⟨by omega, by omega, by omega⟩)⟩ hO0 un.rf ⟨fun q => by exfalso; omega, fun _ => rfl⟩)
      · have t24 := le_no c15
        refine ur_push rfl ?_
        exact ur_ret rfl rfl (hQ _ _ ⟨_, rfl, Or.inr (Or.inr ⟨by omega, by omega⟩)⟩ hO0 un.rf ⟨fun q => by exfalso; omega, fun _ => rfl⟩)

set_option maxRecDepth 20000 in
set_option maxHeartbeats 4000000 in
theorem sd_X1_wordAt {d kc ks : Nat} {h0 : aH} {Q : Option aV → aH → Prop} (hO0 : OK h0) (a1 : Int32) (pre0 : NA h0) (hQ : ∀ r, (∃ o, r = some (.inr (.inr o)) ∧ (∀ z, o = some z → 114 ≤ z ∧ tg h0 z = (110, 13)) ∧ (o = none → ¬ (0 ≤ a1.toInt ∧ a1.toInt < fO h0 15 1)) ∧ (∀ z, o = some z → (0 ≤ a1.toInt ∧ a1.toInt < fO h0 15 1))) → Q r h0) : uCall Mt (d + 1) 8 [(.inr (.inr (some 15))), (.inl a1)] h0 kc ks Q := by
  have l_0 : ((0) : Int32).toInt = 0 := by decide
  refine uc_ink [some (.inr (.inr (some 15))), some (.inl a1)] mt_8 (Nat.le_of_ble_eq_true rfl) rfl ?_
  obtain ⟨f2, f3, f4, f5, hc1, k6⟩ := ok_15 hO0
  have t7 := fO_of (k := 1) hc1 rfl
  refine ur_ldI rfl rfl ?_
  refine ur_if1 rfl (fun c8 => ?_) (fun c8 => ?_)
  · have t9 := lt_to c8
    refine ur_push rfl ?_
    exact ur_ret rfl rfl (hQ _ ⟨_, rfl, (fun _ e => nomatch e), (fun _ => by omega), (fun _ e => nomatch e)⟩ )
  · have t10 := lt_no c8
    refine ur_ldI rfl rfl ?_
    refine ur_ldA rfl rfl ?_
    refine ur_get rfl hc1 rfl ?_
    have z11 := any_r a1
    have z12 := any_r f2
    refine ur_if2 rfl (fun c13 => ?_) (fun c13 => ?_)
    · have t14 := le_to c13
      refine ur_push rfl ?_
      exact ur_ret rfl rfl (hQ _ ⟨_, rfl, (fun _ e => nomatch e), (fun _ => by omega), (fun _ e => nomatch e)⟩ )
    · have t15 := le_no c13
      refine ur_ldA rfl rfl ?_
      refine ur_get rfl hc1 rfl ?_
      refine ur_ldI rfl rfl ?_
      obtain ⟨xs17, hc16, hn18, he19⟩ := hO0.wor (hO0.fix 16 (by decide) rfl)
      refine ur_aldAV rfl hc16 hn18 (by omega) (fun o20 hx21 => ?_)
      have k22 : ∀ z, o20 = some z → 114 ≤ z ∧ tg h0 z = (110, 13) := fun z e => he19 _ z (by rw [hx21, e])
      refine ur_go rfl ?_
      have t23 : o20 = none → ¬ (0 ≤ a1.toInt ∧ a1.toInt < fO h0 15 1) := fun e => absurd e (NA_some pre0 hc16 hx21 (by omega) (by omega))
      have t24 : ∀ z, o20 = some z → 0 ≤ a1.toInt ∧ a1.toInt < fO h0 15 1 := fun _ _ => by omega
      exact ur_ret rfl rfl (hQ _ ⟨_, rfl, k22, (fun e => by have e := t23 e; omega), (fun z e => by have e := t24 z e; omega)⟩ )

set_option maxRecDepth 20000 in
set_option maxHeartbeats 4000000 in
theorem sd_X11_keep {d kc ks : Nat} {h0 : aH} {Q : Option aV → aH → Prop} (hO0 : OK h0) (a1 : Int32) (a2 : Int32) (pre0 : NA h0) (hQ : ∀ r h', (∃ x : Int32, r = some (.inl x) ∧ ((0 ≤ a1.toInt ∧ a1.toInt ≤ 5) ∧ a2.toInt = -1 ∧ x.toInt = 1 ∨ (0 ≤ a1.toInt ∧ a1.toInt ≤ 5) ∧ (0 ≤ a2.toInt ∧ a2.toInt < fO h0 15 1) ∧ x.toInt = 1 ∨ ¬ ((0 ≤ a1.toInt ∧ a1.toInt ≤ 5) ∧ (a2.toInt = -1 ∨ (0 ≤ a2.toInt ∧ a2.toInt < fO h0 15 1))) ∧ x.toInt = -1)) → OK h' → un [58, 59] h0 h' → (((0 ≤ a1.toInt ∧ a1.toInt ≤ 5) ∧ a2.toInt = -1 → wI h0 h' 58 ((arI h0 58).set a1.toInt.toNat 0)) ∧ ((0 ≤ a1.toInt ∧ a1.toInt ≤ 5) ∧ (0 ≤ a2.toInt ∧ a2.toInt < fO h0 15 1) → ∃ h1, OK h1 ∧ wI h0 h1 58 ((arI h0 58).set a1.toInt.toNat 1) ∧ wI h1 h' 59 ((arI h1 59).set a1.toInt.toNat a2)) ∧ (¬ ((0 ≤ a1.toInt ∧ a1.toInt ≤ 5) ∧ (a2.toInt = -1 ∨ (0 ≤ a2.toInt ∧ a2.toInt < fO h0 15 1))) → h' = h0)) → Q r h') : uCall Mt (d + 4) 159 [(.inr (.inr (some 0))), (.inl a1), (.inl a2)] h0 kc ks Q := by
  have l_m1 : ((-1) : Int32).toInt = -1 := by decide
  have l_0 : ((0) : Int32).toInt = 0 := by decide
  have l_1 : ((1) : Int32).toInt = 1 := by decide
  have l_5 : ((5) : Int32).toInt = 5 := by decide
  refine uc_ink [some (.inr (.inr (some 0))), some (.inl a1), some (.inl a2)] mt_159 (Nat.le_of_ble_eq_true rfl) rfl ?_
  obtain ⟨f2, f3, f4, f5, hc1, k6⟩ := ok_15 hO0
  have t7 := fO_of (k := 1) hc1 rfl
  refine ur_ldA rfl rfl ?_
  obtain ⟨hc8, k9⟩ := ok_0 hO0
  refine ur_get rfl hc8 rfl ?_
  refine ur_ldI rfl rfl ?_
  obtain ⟨hc10, k11⟩ := ok_57 hO0
  refine ur_callv rfl rfl (Nat.le_of_ble_eq_true rfl) (Nat.le_of_ble_eq_true rfl) (rcv_of hc10) (sp_page _ _) ?_
  refine ur_neB rfl (fun c14 => ?_) (fun c14 => ?_)
  · have t15 := wi_toL c14 l_0 l_5
    refine ur_ldI rfl rfl ?_
    refine ur_push rfl ?_
    refine ur_if2 rfl (fun c16 => ?_) (fun c16 => ?_)
    · have t17 := ne_to c16
      refine ur_ldA rfl rfl ?_
      refine ur_get rfl hc8 rfl ?_
      refine ur_ldI rfl rfl ?_
      refine ur_inl rfl (rcv_of hc1) (Nat.le_of_ble_eq_true rfl) (Nat.le_of_ble_eq_true rfl) (sd_X1_wordAt hO0 _ pre0 (fun w18 hr19 => ?_))
      obtain ⟨o20, rfl, k21, t22, t23⟩ := hr19
      show uRun _ (uCall Mt _) _ 36 (_, [(.inr (.inr o20))], _, _, _)
      cases o20 with
      | none =>
        refine ur_nulN rfl ?_
        have t25 := t22 rfl
        refine ur_push rfl ?_
        exact ur_ret rfl rfl (hQ _ _ ⟨_, rfl, Or.inr (Or.inr ⟨by omega, by omega⟩)⟩ hO0 un.rf ⟨fun q => by exfalso; omega, fun q => by exfalso; omega, fun _ => rfl⟩)
      | some r24 =>
        refine ur_nulS rfl ?_
        have k26 := k21 _ rfl
        have t27 := t23 _ rfl
        refine ur_ldA rfl rfl ?_
        refine ur_get rfl hc8 rfl ?_
        refine ur_ldI rfl rfl ?_
        refine ur_ldI rfl rfl ?_
        refine ur_inl rfl (rcv_of hc10) (Nat.le_of_ble_eq_true rfl) (Nat.le_of_ble_eq_true rfl) (sd_X4_keepWord hO0 _ _ (by omega) (fun w28 h31 hr29 hO31 hv31 hp30 => ?_))
        have hu31 := hv31
        subst hr29
        show uRun _ (uCall Mt _) _ 50 (_, [], _, _, _)
        refine ur_push rfl ?_
        have t32 := fO_of (k := 1) (hv31.ko (n := 11) hc1 rfl (wid_f (by decide)) (by decide)) rfl
        exact ur_ret rfl rfl (hQ _ _ ⟨_, rfl, by omega⟩ hO31 hu31 ⟨fun q => by exfalso; omega, fun _ => hp30, fun q => absurd (by omega) q⟩)
    · have t33 := ne_no c16
      refine ur_ldA rfl rfl ?_
      refine ur_get rfl hc8 rfl ?_
      refine ur_ldI rfl rfl ?_
      refine ur_inl rfl (rcv_of hc10) (Nat.le_of_ble_eq_true rfl) (Nat.le_of_ble_eq_true rfl) (sd_X4_keepNothing hO0 _ (by omega) (fun w34 h37 hr35 hO37 hv37 hp36 => ?_))
      have hu37 : un [58, 59] h0 h37 := hv37.mono (by decide)
      subst hr35
      show uRun _ (uCall Mt _) _ 26 (_, [], _, _, _)
      refine ur_push rfl ?_
      have t38 := fO_of (k := 1) (hv37.ko (n := 11) hc1 rfl (wid_f (by decide)) (by decide)) rfl
      exact ur_ret rfl rfl (hQ _ _ ⟨_, rfl, by omega⟩ hO37 hu37 ⟨fun _ => hp36, fun q => by exfalso; omega, fun q => absurd (by omega) q⟩)
  · have t39 := wi_noL c14 l_0 l_5
    refine ur_push rfl ?_
    exact ur_ret rfl rfl (hQ _ _ ⟨_, rfl, Or.inr (Or.inr ⟨by omega, by omega⟩)⟩ hO0 un.rf ⟨fun q => by exfalso; omega, fun q => by exfalso; omega, fun _ => rfl⟩)

set_option maxRecDepth 20000 in
set_option maxHeartbeats 4000000 in
theorem sd_X4_copy {d kc ks : Nat} {h0 : aH} {Q : Option aV → aH → Prop} (hO0 : OK h0) (a1 : Int32) (a2 : Int32) (a3 : Int32) (a4 : Int32) (a5 : Int32) (pre0 : (((0 ≤ a1.toInt ∧ a1.toInt ≤ 5) ∧ gI h0 58 a1.toInt = 2 ∧ 0 ≤ a2.toInt ∧ 0 ≤ a5.toInt ∧ a2.toInt ≤ gI h0 61 a1.toInt ∧ a5.toInt ≤ gI h0 61 a1.toInt - a2.toInt) ∧ ((0 ≤ a3.toInt ∧ a3.toInt ≤ 5) ∧ gI h0 58 a3.toInt = 2 ∧ 0 ≤ a4.toInt ∧ 0 ≤ a5.toInt ∧ a4.toInt ≤ gI h0 61 a3.toInt ∧ a5.toInt ≤ gI h0 61 a3.toInt - a4.toInt))) (hQ : ∀ r h', (r = none) → OK h' → un [63, 64, 65, 66, 67, 68] h0 h' → (wJ h0 h' (63 + a3.toInt.toNat) (cpL 0 (arJ h0 (63 + a1.toInt.toNat)) (arJ h0 (63 + a3.toInt.toNat)) a2.toInt.toNat a4.toInt.toNat a5.toInt.toNat)) → Q r h') : uCall Mt (d + 5) 45 [(.inr (.inr (some 57))), (.inl a1), (.inl a2), (.inl a3), (.inl a4), (.inl a5)] h0 kc ks Q := by
  refine uc_ink [some (.inr (.inr (some 57))), some (.inl a1), some (.inl a2), some (.inl a3), some (.inl a4), some (.inl a5)] mt_45 (Nat.le_of_ble_eq_true rfl) rfl ?_
  have t1 := gI61 hO0 a1.toInt
  have t2 := gI61 hO0 a3.toInt
  refine ur_ldA rfl rfl ?_
  refine ur_ldI rfl rfl ?_
  refine ur_ldI rfl rfl ?_
  refine ur_ldI rfl rfl ?_
  obtain ⟨hc3, k4⟩ := ok_57 hO0
  refine ur_inl rfl (rcv_of hc3) (Nat.le_of_ble_eq_true rfl) (Nat.le_of_ble_eq_true rfl) (sd_X4_hasPlaces hO0 _ _ _ (fun w5 hr6 => ?_))
  obtain ⟨b7, rfl, t8, t9⟩ := hr6
  show uRun _ (uCall Mt _) _ 8 (_, [(.inl (bi b7))], _, _, _)
  refine ur_eqB rfl (fun c10 => ?_) (fun c10 => ?_)
  · have t11 := t9 c10
    clear t8 t9
    exfalso
    omega
  · have t12 := t8 c10
    clear t8 t9
    refine ur_ldA rfl rfl ?_
    refine ur_ldI rfl rfl ?_
    refine ur_ldI rfl rfl ?_
    refine ur_ldI rfl rfl ?_
    refine ur_inl rfl (rcv_of hc3) (Nat.le_of_ble_eq_true rfl) (Nat.le_of_ble_eq_true rfl) (sd_X4_hasPlaces hO0 _ _ _ (fun w13 hr14 => ?_))
    obtain ⟨b15, rfl, t16, t17⟩ := hr14
    show uRun _ (uCall Mt _) _ 20 (_, [(.inl (bi b15))], _, _, _)
    refine ur_eqB rfl (fun c18 => ?_) (fun c18 => ?_)
    · have t19 := t17 c18
      clear t16 t17
      exfalso
      omega
    · have t20 := t16 c18
      clear t16 t17
      refine ur_ldA rfl rfl ?_
      refine ur_get rfl hc3 rfl ?_
      refine ur_ldI rfl rfl ?_
      refine ur_rowE rfl hO0 (by omega) (fun r21 k22 e23 => ?_)
      refine ur_ldI rfl rfl ?_
      refine ur_ldA rfl rfl ?_
      refine ur_get rfl hc3 rfl ?_
      refine ur_ldI rfl rfl ?_
      refine ur_rowE rfl hO0 (by omega) (fun r24 k25 e26 => ?_)
      refine ur_ldI rfl rfl ?_
      refine ur_ldI rfl rfl ?_
      obtain ⟨xs28, hc27, hn29⟩ := hO0.lon k22.2
      obtain ⟨xs32, hc31, hn33⟩ := hO0.lon k25.2
      refine ur_cpJE (W := [63, 64, 65, 66, 67, 68]) rfl hO0 hc27 hc31 hn29 hn33 (by omega) (Nat.le_of_ble_eq_true rfl) (Or.inr (Or.inr (wid_row k25.1 (by decide)))) (fun h36 hO36 hu36 d35 hc37 => ?_)
      have w38 : wJ h0 h36 r24 (cpL 0 (arJ h0 r21) (arJ h0 r24) a2.toInt.toNat a4.toInt.toNat a5.toInt.toNat) := ⟨by rw [arJ_of hc37, arJ_of hc27, arJ_of hc31], d35⟩
      exact ur_ret0 rfl (hQ _ _ rfl hO36 hu36 (by rw [← e23, ← e26]; exact w38))

set_option maxRecDepth 20000 in
set_option maxHeartbeats 4000000 in
theorem sd_X11_shift {d kc ks : Nat} {h0 : aH} {Q : Option aV → aH → Prop} (hO0 : OK h0) (a1 : Int32) (a2 : Int32) (a3 : Int32) (a4 : Int32) (a5 : Int32) (hQ : ∀ r h', (∃ x : Int32, r = some (.inl x) ∧ (¬ ((0 ≤ a1.toInt ∧ a1.toInt ≤ 5) ∧ (0 ≤ a3.toInt ∧ a3.toInt ≤ 5)) ∧ x.toInt = -1 ∨ ((0 ≤ a1.toInt ∧ a1.toInt ≤ 5) ∧ (0 ≤ a3.toInt ∧ a3.toInt ≤ 5)) ∧ (gI h0 58 a1.toInt = 0 ∨ gI h0 58 a3.toInt = 0) ∧ x.toInt = -11 ∨ ((0 ≤ a1.toInt ∧ a1.toInt ≤ 5) ∧ (0 ≤ a3.toInt ∧ a3.toInt ≤ 5)) ∧ ¬ (gI h0 58 a1.toInt = 0 ∨ gI h0 58 a3.toInt = 0) ∧ ¬ (gI h0 58 a1.toInt = 2 ∧ gI h0 58 a3.toInt = 2 ∧ gI h0 60 a1.toInt = gI h0 60 a3.toInt) ∧ x.toInt = -12 ∨ (((0 ≤ a1.toInt ∧ a1.toInt ≤ 5) ∧ (0 ≤ a3.toInt ∧ a3.toInt ≤ 5)) ∧ gI h0 58 a1.toInt = 2 ∧ gI h0 58 a3.toInt = 2 ∧ gI h0 60 a1.toInt = gI h0 60 a3.toInt) ∧ ¬ (((0 ≤ a1.toInt ∧ a1.toInt ≤ 5) ∧ gI h0 58 a1.toInt = 2 ∧ 0 ≤ a2.toInt ∧ 0 ≤ a5.toInt ∧ a2.toInt ≤ gI h0 61 a1.toInt ∧ a5.toInt ≤ gI h0 61 a1.toInt - a2.toInt) ∧ ((0 ≤ a3.toInt ∧ a3.toInt ≤ 5) ∧ gI h0 58 a3.toInt = 2 ∧ 0 ≤ a4.toInt ∧ 0 ≤ a5.toInt ∧ a4.toInt ≤ gI h0 61 a3.toInt ∧ a5.toInt ≤ gI h0 61 a3.toInt - a4.toInt)) ∧ x.toInt = -13 ∨ (((0 ≤ a1.toInt ∧ a1.toInt ≤ 5) ∧ (0 ≤ a3.toInt ∧ a3.toInt ≤ 5)) ∧ gI h0 58 a1.toInt = 2 ∧ gI h0 58 a3.toInt = 2 ∧ gI h0 60 a1.toInt = gI h0 60 a3.toInt) ∧ (((0 ≤ a1.toInt ∧ a1.toInt ≤ 5) ∧ gI h0 58 a1.toInt = 2 ∧ 0 ≤ a2.toInt ∧ 0 ≤ a5.toInt ∧ a2.toInt ≤ gI h0 61 a1.toInt ∧ a5.toInt ≤ gI h0 61 a1.toInt - a2.toInt) ∧ ((0 ≤ a3.toInt ∧ a3.toInt ≤ 5) ∧ gI h0 58 a3.toInt = 2 ∧ 0 ≤ a4.toInt ∧ 0 ≤ a5.toInt ∧ a4.toInt ≤ gI h0 61 a3.toInt ∧ a5.toInt ≤ gI h0 61 a3.toInt - a4.toInt)) ∧ x.toInt = a5.toInt)) → OK h' → un [63, 64, 65, 66, 67, 68] h0 h' → ((((((0 ≤ a1.toInt ∧ a1.toInt ≤ 5) ∧ gI h0 58 a1.toInt = 2 ∧ 0 ≤ a2.toInt ∧ 0 ≤ a5.toInt ∧ a2.toInt ≤ gI h0 61 a1.toInt ∧ a5.toInt ≤ gI h0 61 a1.toInt - a2.toInt) ∧ ((0 ≤ a3.toInt ∧ a3.toInt ≤ 5) ∧ gI h0 58 a3.toInt = 2 ∧ 0 ≤ a4.toInt ∧ 0 ≤ a5.toInt ∧ a4.toInt ≤ gI h0 61 a3.toInt ∧ a5.toInt ≤ gI h0 61 a3.toInt - a4.toInt)) ∧ gI h0 60 a1.toInt = gI h0 60 a3.toInt) → wJ h0 h' (63 + a3.toInt.toNat) (cpL 0 (arJ h0 (63 + a1.toInt.toNat)) (arJ h0 (63 + a3.toInt.toNat)) a2.toInt.toNat a4.toInt.toNat a5.toInt.toNat)) ∧ (¬ ((((0 ≤ a1.toInt ∧ a1.toInt ≤ 5) ∧ gI h0 58 a1.toInt = 2 ∧ 0 ≤ a2.toInt ∧ 0 ≤ a5.toInt ∧ a2.toInt ≤ gI h0 61 a1.toInt ∧ a5.toInt ≤ gI h0 61 a1.toInt - a2.toInt) ∧ ((0 ≤ a3.toInt ∧ a3.toInt ≤ 5) ∧ gI h0 58 a3.toInt = 2 ∧ 0 ≤ a4.toInt ∧ 0 ≤ a5.toInt ∧ a4.toInt ≤ gI h0 61 a3.toInt ∧ a5.toInt ≤ gI h0 61 a3.toInt - a4.toInt)) ∧ gI h0 60 a1.toInt = gI h0 60 a3.toInt) → h' = h0)) → Q r h') : uCall Mt (d + 6) 163 [(.inr (.inr (some 0))), (.inl a1), (.inl a2), (.inl a3), (.inl a4), (.inl a5)] h0 kc ks Q := by
  have l_m13 : ((-13) : Int32).toInt = -13 := by decide
  have l_m12 : ((-12) : Int32).toInt = -12 := by decide
  have l_m11 : ((-11) : Int32).toInt = -11 := by decide
  have l_m1 : ((-1) : Int32).toInt = -1 := by decide
  have l_0 : ((0) : Int32).toInt = 0 := by decide
  have l_5 : ((5) : Int32).toInt = 5 := by decide
  refine uc_ink [some (.inr (.inr (some 0))), some (.inl a1), some (.inl a2), some (.inl a3), some (.inl a4), some (.inl a5)] mt_163 (Nat.le_of_ble_eq_true rfl) rfl ?_
  refine ur_ldA rfl rfl ?_
  obtain ⟨hc1, k2⟩ := ok_0 hO0
  refine ur_get rfl hc1 rfl ?_
  refine ur_ldI rfl rfl ?_
  obtain ⟨hc3, k4⟩ := ok_57 hO0
  refine ur_callv rfl rfl (Nat.le_of_ble_eq_true rfl) (Nat.le_of_ble_eq_true rfl) (rcv_of hc3) (sp_page _ _) ?_
  refine ur_eqB rfl (fun c7 => ?_) (fun c7 => ?_)
  · have t8 := wi_noL c7 l_0 l_5
    refine ur_push rfl ?_
    exact ur_ret rfl rfl (hQ _ _ ⟨_, rfl, Or.inl ⟨by omega, by omega⟩⟩ hO0 un.rf ⟨fun q => by exfalso; omega, fun _ => rfl⟩)
  · have t9 := wi_toL c7 l_0 l_5
    refine ur_ldA rfl rfl ?_
    refine ur_get rfl hc1 rfl ?_
    refine ur_ldI rfl rfl ?_
    refine ur_callv rfl rfl (Nat.le_of_ble_eq_true rfl) (Nat.le_of_ble_eq_true rfl) (rcv_of hc3) (sp_page _ _) ?_
    refine ur_neB rfl (fun c12 => ?_) (fun c12 => ?_)
    · have t13 := wi_toL c12 l_0 l_5
      refine ur_ldA rfl rfl ?_
      refine ur_get rfl hc1 rfl ?_
      refine ur_ldI rfl rfl ?_
      refine ur_inl rfl (rcv_of hc3) (Nat.le_of_ble_eq_true rfl) (Nat.le_of_ble_eq_true rfl) (sd_X4_isEmpty hO0 _ (fun w14 hr15 => ?_))
      obtain ⟨b16, rfl, t17, t18⟩ := hr15
      show uRun _ (uCall Mt _) _ 32 (_, [(.inl (bi b16))], _, _, _)
      refine ur_neB rfl (fun c19 => ?_) (fun c19 => ?_)
      · have t20 := t17 c19
        clear t17 t18
        refine ur_push rfl ?_
        exact ur_ret rfl rfl (hQ _ _ ⟨_, rfl, Or.inr (Or.inl ⟨by omega, by omega, by omega⟩)⟩ hO0 un.rf ⟨fun q => by exfalso; omega, fun _ => rfl⟩)
      · have t21 := t18 c19
        clear t17 t18
        refine ur_ldA rfl rfl ?_
        refine ur_get rfl hc1 rfl ?_
        refine ur_ldI rfl rfl ?_
        refine ur_inl rfl (rcv_of hc3) (Nat.le_of_ble_eq_true rfl) (Nat.le_of_ble_eq_true rfl) (sd_X4_isEmpty hO0 _ (fun w22 hr23 => ?_))
        obtain ⟨b24, rfl, t25, t26⟩ := hr23
        show uRun _ (uCall Mt _) _ 43 (_, [(.inl (bi b24))], _, _, _)
        refine ur_eqB rfl (fun c27 => ?_) (fun c27 => ?_)
        · have t28 := t26 c27
          clear t25 t26
          refine ur_ldA rfl rfl ?_
          refine ur_get rfl hc1 rfl ?_
          refine ur_ldI rfl rfl ?_
          refine ur_ldI rfl rfl ?_
          refine ur_inl rfl (rcv_of hc3) (Nat.le_of_ble_eq_true rfl) (Nat.le_of_ble_eq_true rfl) (sd_X4_areRowsOfOneSort hO0 _ _ (fun w29 hr30 => ?_))
          obtain ⟨b31, rfl, t32, t33⟩ := hr30
          show uRun _ (uCall Mt _) _ 58 (_, [(.inl (bi b31))], _, _, _)
          refine ur_neB rfl (fun c34 => ?_) (fun c34 => ?_)
          · have t35 := t32 c34
            clear t32 t33
            refine ur_ldA rfl rfl ?_
            refine ur_get rfl hc1 rfl ?_
            refine ur_ldI rfl rfl ?_
            refine ur_ldI rfl rfl ?_
            refine ur_ldI rfl rfl ?_
            refine ur_inl rfl (rcv_of hc3) (Nat.le_of_ble_eq_true rfl) (Nat.le_of_ble_eq_true rfl) (sd_X4_hasPlaces hO0 _ _ _ (fun w36 hr37 => ?_))
            obtain ⟨b38, rfl, t39, t40⟩ := hr37
            show uRun _ (uCall Mt _) _ 75 (_, [(.inl (bi b38))], _, _, _)
            refine ur_eqB rfl (fun c41 => ?_) (fun c41 => ?_)
            · have t42 := t40 c41
              clear t39 t40
              refine ur_push rfl ?_
              exact ur_ret rfl rfl (hQ _ _ ⟨_, rfl, Or.inr (Or.inr (Or.inr (Or.inl ⟨by omega, by omega, by omega⟩)))⟩ hO0 un.rf ⟨fun q => by exfalso; omega, fun _ => rfl⟩)
            · have t43 := t39 c41
              clear t39 t40
              refine ur_ldA rfl rfl ?_
              refine ur_get rfl hc1 rfl ?_
              refine ur_ldI rfl rfl ?_
              refine ur_ldI rfl rfl ?_
              refine ur_ldI rfl rfl ?_
              refine ur_inl rfl (rcv_of hc3) (Nat.le_of_ble_eq_true rfl) (Nat.le_of_ble_eq_true rfl) (sd_X4_hasPlaces hO0 _ _ _ (fun w44 hr45 => ?_))
              obtain ⟨b46, rfl, t47, t48⟩ := hr45
              show uRun _ (uCall Mt _) _ 90 (_, [(.inl (bi b46))], _, _, _)
              refine ur_neB rfl (fun c49 => ?_) (fun c49 => ?_)
              · have t50 := t47 c49
                clear t47 t48
                refine ur_ldA rfl rfl ?_
                refine ur_get rfl hc1 rfl ?_
                refine ur_ldI rfl rfl ?_
                refine ur_ldI rfl rfl ?_
                refine ur_ldI rfl rfl ?_
                refine ur_ldI rfl rfl ?_
                refine ur_ldI rfl rfl ?_
                refine ur_inl rfl (rcv_of hc3) (Nat.le_of_ble_eq_true rfl) (Nat.le_of_ble_eq_true rfl) (sd_X4_copy hO0 _ _ _ _ _ (by omega) (fun w51 h54 hr52 hO54 hv54 hp53 => ?_))
                have hu54 := hv54
                subst hr52
                show uRun _ (uCall Mt _) _ 110 (_, [], _, _, _)
                refine ur_ldI rfl rfl ?_
                exact ur_ret rfl rfl (hQ _ _ ⟨_, rfl, Or.inr (Or.inr (Or.inr (Or.inr ⟨by omega, by omega, by omega⟩)))⟩ hO54 hu54 ⟨fun _ => hp53, fun q => absurd (by omega) q⟩)
              · have t55 := t48 c49
                clear t47 t48
                refine ur_push rfl ?_
                exact ur_ret rfl rfl (hQ _ _ ⟨_, rfl, Or.inr (Or.inr (Or.inr (Or.inl ⟨by omega, by omega, by omega⟩)))⟩ hO0 un.rf ⟨fun q => by exfalso; omega, fun _ => rfl⟩)
          · have t56 := t33 c34
            clear t32 t33
            refine ur_push rfl ?_
            exact ur_ret rfl rfl (hQ _ _ ⟨_, rfl, Or.inr (Or.inr (Or.inl ⟨by omega, by omega, by omega, by omega⟩))⟩ hO0 un.rf ⟨fun q => by exfalso; omega, fun _ => rfl⟩)
        · have t57 := t25 c27
          clear t25 t26
          refine ur_push rfl ?_
          exact ur_ret rfl rfl (hQ _ _ ⟨_, rfl, Or.inr (Or.inl ⟨by omega, by omega, by omega⟩)⟩ hO0 un.rf ⟨fun q => by exfalso; omega, fun _ => rfl⟩)
    · have t58 := wi_noL c12 l_0 l_5
      refine ur_push rfl ?_
      exact ur_ret rfl rfl (hQ _ _ ⟨_, rfl, Or.inl ⟨by omega, by omega⟩⟩ hO0 un.rf ⟨fun q => by exfalso; omega, fun _ => rfl⟩)
end PGC
