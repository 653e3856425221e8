/-! ALIKE, foretold; printed by program -/
section SKY11
theorem fb_rg2 {nx : Int → Int} : ∀ (k : Nat) (t : Int), 0 ≤ t → t ≤ 999999 → fb nx k t ≠ -1 → 0 ≤ fb nx k t ∧ fb nx k t ≤ 999999
  | 0, t, h0, h1, _ => ⟨h0, h1⟩
  | k + 1, t, h0, h1, h => by
    have e : fb nx (k + 1) t = if 0 ≤ nx t ∧ nx t ≤ 999999 then fb nx k (nx t) else -1 := rfl
    by_cases q : 0 ≤ nx t ∧ nx t ≤ 999999
    · rw [e, if_pos q] at h ⊢
      exact fb_rg2 k (nx t) q.1 q.2 h
    · rw [e, if_neg q] at h
      exact absurd rfl h
theorem sh_ag {a n u : Int32} (hn : 0 ≤ n.toInt ∧ n.toInt ≤ 4) (ha : 0 ≤ a.toInt) (e : a >>> (n &&& 31) = u) : u.toInt = 0 ↔ a.toInt ≤ (agV n.toInt).toInt := by
  rcases i07 (x := n) (by omega) with q | q | q | q | q | q | q | q
  · subst q
    have h : u.toInt = a.toInt / 1 := by
      rw [← e, show ((0 : Int32) &&& 31) = 0 by decide, pk_shr a 0 0 (by decide), Int.shiftRight_eq_div_pow]
      rfl
    rw [agV_eq, show (agV0 (0 : Int32).toInt).toInt = 0 by decide]
    omega
  · subst q
    have h : u.toInt = a.toInt / 2 := by
      rw [← e, show ((1 : Int32) &&& 31) = 1 by decide, pk_shr a 1 1 (by decide), Int.shiftRight_eq_div_pow]
      rfl
    rw [agV_eq, show (agV0 (1 : Int32).toInt).toInt = 1 by decide]
    omega
  · subst q
    have h : u.toInt = a.toInt / 4 := by
      rw [← e, show ((2 : Int32) &&& 31) = 2 by decide, pk_shr a 2 2 (by decide), Int.shiftRight_eq_div_pow]
      rfl
    rw [agV_eq, show (agV0 (2 : Int32).toInt).toInt = 3 by decide]
    omega
  · subst q
    have h : u.toInt = a.toInt / 8 := by
      rw [← e, show ((3 : Int32) &&& 31) = 3 by decide, pk_shr a 3 3 (by decide), Int.shiftRight_eq_div_pow]
      rfl
    rw [agV_eq, show (agV0 (3 : Int32).toInt).toInt = 7 by decide]
    omega
  · subst q
    have h : u.toInt = a.toInt / 16 := by
      rw [← e, show ((4 : Int32) &&& 31) = 4 by decide, pk_shr a 4 4 (by decide), Int.shiftRight_eq_div_pow]
      rfl
    rw [agV_eq, show (agV0 (4 : Int32).toInt).toInt = 15 by decide]
    omega
  · subst q; exact absurd hn.2 (by decide)
  · subst q; exact absurd hn.2 (by decide)
  · subst q; exact absurd hn.2 (by decide)
set_option maxRecDepth 20000 in
set_option maxHeartbeats 4000000 in
theorem sd_X11_apart {d kc ks : Nat} {h0 : aH} {Q : Option aV → aH → Prop} (hO0 : OK h0) (a0 : Int32) (b0 : -400 ≤ a0.toInt ∧ a0.toInt ≤ 400) (a1 : Int32) (b1 : -400 ≤ a1.toInt ∧ a1.toInt ≤ 400) (pre0 : -359 ≤ a0.toInt - a1.toInt ∧ a0.toInt - a1.toInt ≤ 359) (hQ : ∀ r, (∃ x : Int32, r = some (.inl x) ∧ ((0 ≤ (a0.toInt - a1.toInt) ∧ (a0.toInt - a1.toInt) ≤ 180 → x.toInt = (a0.toInt - a1.toInt)) ∧ (180 < (a0.toInt - a1.toInt) → x.toInt = 360 - ((a0.toInt - a1.toInt))) ∧ (-180 ≤ (a0.toInt - a1.toInt) ∧ (a0.toInt - a1.toInt) < 0 → x.toInt = -((a0.toInt - a1.toInt))) ∧ ((a0.toInt - a1.toInt) < -180 → x.toInt = 360 + ((a0.toInt - a1.toInt))))) → Q r h0) : uCall Mt (d + 1) 179 [(.inl a0), (.inl a1)] h0 kc ks Q := by
  have l_360 : ((360) : Int32).toInt = 360 := by decide
  refine uc_ink [some (.inl a0), some (.inl a1), none] mt_179 (Nat.le_of_ble_eq_true rfl) rfl ?_
  refine ur_ldI rfl rfl ?_
  refine ur_ldI rfl rfl ?_
  refine ur_binV rfl (fun x1 e2 => ?_)
  have z3 := any_r a0
  have z4 := any_r a1
  have t5 := ti_sub e2 (by omega) (by omega)
  refine ur_absV rfl (by show ¬ 9 ≤ 1; decide) (fun x6 t7 e8 => ?_)
  have t9 := t7 (by omega)
  clear t7
  refine ur_push rfl ?_
  refine ur_divV rfl (by decide) (fun x10 e11 => ?_)
  have z12 := any_r x6
  have t13 := ti_rem e11 l_360 (by decide) (by omega)
  refine ur_svIk [some (.inl a0), some (.inl a1), some (.inl x10)] rfl rfl ?_
  refine ur_ldI rfl rfl ?_
  refine ur_push rfl ?_
  refine ur_ldI rfl rfl ?_
  refine ur_binV rfl (fun x14 e15 => ?_)
  have z16 := any_r x10
  have t17 := ti_sub e15 (by omega) (by omega)
  refine ur_minV rfl (by show ¬ 9 ≤ 2; decide) (fun x18 t19 e20 => ?_)
  exact ur_ret rfl rfl (hQ _ ⟨_, rfl, ⟨fun q => by omega, fun q => by omega, fun q => by omega, fun q => by omega⟩⟩ )

set_option maxRecDepth 20000 in
set_option maxHeartbeats 4000000 in
theorem sd_X12_apartOf {d kc ks : Nat} {h0 : aH} {Q : Option aV → aH → Prop} (hO0 : OK h0) (a0 : Int32) (b0 : -400 ≤ a0.toInt ∧ a0.toInt ≤ 400) (a1 : Int32) (b1 : -400 ≤ a1.toInt ∧ a1.toInt ≤ 400) (pre0 : -359 ≤ a0.toInt - a1.toInt ∧ a0.toInt - a1.toInt ≤ 359) (hQ : ∀ r, (∃ x : Int32, r = some (.inl x) ∧ ((0 ≤ (a0.toInt - a1.toInt) ∧ (a0.toInt - a1.toInt) ≤ 180 → x.toInt = (a0.toInt - a1.toInt)) ∧ (180 < (a0.toInt - a1.toInt) → x.toInt = 360 - ((a0.toInt - a1.toInt))) ∧ (-180 ≤ (a0.toInt - a1.toInt) ∧ (a0.toInt - a1.toInt) < 0 → x.toInt = -((a0.toInt - a1.toInt))) ∧ ((a0.toInt - a1.toInt) < -180 → x.toInt = 360 + ((a0.toInt - a1.toInt))))) → Q r h0) : uCall Mt (d + 2) 186 [(.inl a0), (.inl a1)] h0 kc ks Q := by
  have l_180 : ((180) : Int32).toInt = 180 := by decide
  have l_360 : ((360) : Int32).toInt = 360 := by decide
  refine uc_ink [some (.inl a0), some (.inl a1), none] mt_186 (Nat.le_of_ble_eq_true rfl) rfl ?_
  refine ur_ldI rfl rfl ?_
  refine ur_ldI rfl rfl ?_
  refine ur_binV rfl (fun x1 e2 => ?_)
  have z3 := any_r a0
  have z4 := any_r a1
  have t5 := ti_sub e2 (by omega) (by omega)
  refine ur_inl rfl rfl (Nat.le_of_ble_eq_true rfl) (Nat.le_of_ble_eq_true rfl) (sf_X12_sizeOf _ (fun w6 hr7 => ?_))
  obtain ⟨x8, rfl, t9⟩ := hr7
  show uRun _ (uCall Mt _) _ 6 (_, [(.inl x8)], _, _, _)
  refine ur_push rfl ?_
  refine ur_divV rfl (by decide) (fun x10 e11 => ?_)
  have z12 := any_r x8
  have t13 : 0 ≤ x8.toInt → x10.toInt = x8.toInt % 360 := fun q => ti_rem e11 l_360 (by decide) q
  refine ur_svIk [some (.inl a0), some (.inl a1), some (.inl x10)] rfl rfl ?_
  refine ur_ldI rfl rfl ?_
  refine ur_push rfl ?_
  refine ur_if2 rfl (fun c14 => ?_) (fun c14 => ?_)
  · have t15 := le_to c14
    refine ur_ldI rfl rfl ?_
    exact ur_ret rfl rfl (hQ _ ⟨_, rfl, ⟨fun q => by omega, fun q => by omega, fun q => by omega, fun q => by omega⟩⟩ )
  · have t16 := le_no c14
    refine ur_push rfl ?_
    refine ur_ldI rfl rfl ?_
    refine ur_binV rfl (fun x17 e18 => ?_)
    have z19 := any_r x10
    have t20 := ti_sub e18 (by omega) (by omega)
    refine ur_go rfl ?_
    exact ur_ret rfl rfl (hQ _ ⟨_, rfl, ⟨fun q => by omega, fun q => by omega, fun q => by omega, fun q => by omega⟩⟩ )

set_option maxRecDepth 20000 in
set_option maxHeartbeats 4000000 in
theorem sd_X11_isNear {d kc ks : Nat} {h0 : aH} {Q : Option aV → aH → Prop} (hO0 : OK h0) (a0 : Int32) (b0 : -359 ≤ a0.toInt ∧ a0.toInt ≤ 359) (a1 : Int32) (b1 : -94 ≤ a1.toInt ∧ a1.toInt ≤ 94) (a2 : Int32) (b2 : 0 ≤ a2.toInt ∧ a2.toInt ≤ 180) (hQ : ∀ r, (∃ q, r = some (.inl (bi q)) ∧ (q = true → (((-a2.toInt ≤ a0.toInt ∧ a0.toInt ≤ a2.toInt) ∨ 360 - a2.toInt ≤ a0.toInt ∨ a0.toInt ≤ a2.toInt - 360) ∧ -a2.toInt ≤ a1.toInt ∧ a1.toInt ≤ a2.toInt)) ∧ (q = false → ¬ (((-a2.toInt ≤ a0.toInt ∧ a0.toInt ≤ a2.toInt) ∨ 360 - a2.toInt ≤ a0.toInt ∨ a0.toInt ≤ a2.toInt - 360) ∧ -a2.toInt ≤ a1.toInt ∧ a1.toInt ≤ a2.toInt))) → Q r h0) : uCall Mt (d + 2) 172 [(.inl a0), (.inl a1), (.inl a2)] h0 kc ks Q := by
  have l_0 : ((0) : Int32).toInt = 0 := by decide
  have l_1 : ((1) : Int32).toInt = 1 := by decide
  refine uc_ink [some (.inl a0), some (.inl a1), some (.inl a2)] mt_172 (Nat.le_of_ble_eq_true rfl) rfl ?_
  refine ur_ldI rfl rfl ?_
  refine ur_push rfl ?_
  refine ur_inl rfl rfl (Nat.le_of_ble_eq_true rfl) (Nat.le_of_ble_eq_true rfl) (sd_X11_apart hO0 _ (by show -400 ≤ a0.toInt ∧ a0.toInt ≤ 400; omega) _ (by show -400 ≤ (0 : Int32).toInt ∧ (0 : Int32).toInt ≤ 400; omega) (by omega) (fun w1 hr2 => ?_))
  obtain ⟨x3, rfl, f4⟩ := hr2
  show uRun _ (uCall Mt _) _ 5 (_, [(.inl x3)], _, _, _)
  refine ur_ldI rfl rfl ?_
  have z5 := any_r x3
  have z6 := any_r a2
  refine ur_if2 rfl (fun c7 => ?_) (fun c7 => ?_)
  · have t8 := lt_to c7
    refine ur_push rfl ?_
    exact ur_ret rfl rfl (hQ _ ⟨false, rfl, fun e => absurd e (by decide), fun _ => by omega⟩ )
  · have t9 := lt_no c7
    refine ur_ldI rfl rfl ?_
    refine ur_absV rfl (by show ¬ 9 ≤ 1; decide) (fun x10 t11 e12 => ?_)
    have t13 := t11 (by omega)
    clear t11
    refine ur_ldI rfl rfl ?_
    have z14 := any_r x10
    refine ur_if2 rfl (fun c15 => ?_) (fun c15 => ?_)
    · have t16 := lt_to c15
      refine ur_push rfl ?_
      exact ur_ret rfl rfl (hQ _ ⟨false, rfl, fun e => absurd e (by decide), fun _ => by omega⟩ )
    · have t17 := lt_no c15
      refine ur_push rfl ?_
      refine ur_go rfl ?_
      exact ur_ret rfl rfl (hQ _ ⟨true, rfl, fun _ => by omega, fun e => absurd e (by decide)⟩ )

set_option maxRecDepth 20000 in
set_option maxHeartbeats 4000000 in
theorem sd_X11_alike {d kc ks : Nat} {h0 : aH} {Q : Option aV → aH → Prop} (hO0 : OK h0) (a1 : Int32) (a2 : Int32) (a3 : Int32) (pre0 : SKc h0) (hQ : ∀ r, (∃ x : Int32, r = some (.inl x) ∧ ((¬ ((0 ≤ a1.toInt ∧ a1.toInt < fO h0 1 4) ∧ (0 ≤ a2.toInt ∧ a2.toInt < fO h0 1 4) ∧ 0 ≤ a3.toInt ∧ a3.toInt ≤ 180) → x.toInt = -1) ∧ (((0 ≤ a1.toInt ∧ a1.toInt < fO h0 1 4) ∧ (0 ≤ a2.toInt ∧ a2.toInt < fO h0 1 4) ∧ 0 ≤ a3.toInt ∧ a3.toInt ≤ 180) → ∃ y z, cz h0 a1.toInt y ∧ cz h0 a2.toInt z ∧ ((fO h0 y 4 = fO h0 z 4 ∧ (((-a3.toInt ≤ (fO h0 y 2 - fO h0 z 2) ∧ (fO h0 y 2 - fO h0 z 2) ≤ a3.toInt) ∨ 360 - a3.toInt ≤ (fO h0 y 2 - fO h0 z 2) ∨ (fO h0 y 2 - fO h0 z 2) ≤ a3.toInt - 360) ∧ -a3.toInt ≤ (fO h0 y 3 - fO h0 z 3) ∧ (fO h0 y 3 - fO h0 z 3) ≤ a3.toInt)) → x.toInt = 1) ∧ (¬ (fO h0 y 4 = fO h0 z 4 ∧ (((-a3.toInt ≤ (fO h0 y 2 - fO h0 z 2) ∧ (fO h0 y 2 - fO h0 z 2) ≤ a3.toInt) ∨ 360 - a3.toInt ≤ (fO h0 y 2 - fO h0 z 2) ∨ (fO h0 y 2 - fO h0 z 2) ≤ a3.toInt - 360) ∧ -a3.toInt ≤ (fO h0 y 3 - fO h0 z 3) ∧ (fO h0 y 3 - fO h0 z 3) ≤ a3.toInt)) → x.toInt = 0)))) → Q r h0) : uCall Mt (d + 3) 150 [(.inr (.inr (some 0))), (.inl a1), (.inl a2), (.inl a3)] h0 kc ks Q := by
  have l_m1 : ((-1) : Int32).toInt = -1 := by decide
  have l_0 : ((0) : Int32).toInt = 0 := by decide
  have l_1 : ((1) : Int32).toInt = 1 := by decide
  have l_180 : ((180) : Int32).toInt = 180 := by decide
  refine uc_ink [some (.inr (.inr (some 0))), some (.inl a1), some (.inl a2), some (.inl a3), none, none] mt_150 (Nat.le_of_ble_eq_true rfl) rfl ?_
  obtain ⟨f2, f3, hc1, k4⟩ := ok_1 hO0
  have t5 := fO_of (k := 4) hc1 rfl
  refine ur_ldA rfl rfl ?_
  obtain ⟨hc6, k7⟩ := ok_0 hO0
  refine ur_get rfl hc6 rfl ?_
  refine ur_ldI rfl rfl ?_
  refine ur_inl rfl (rcv_of hc1) (Nat.le_of_ble_eq_true rfl) (Nat.le_of_ble_eq_true rfl) (sd_X6_cometAt hO0 _ pre0 (fun w8 hr9 => ?_))
  obtain ⟨o10, rfl, k11, t12, t13⟩ := hr9
  show uRun _ (uCall Mt _) _ 8 (_, [(.inr (.inr o10))], _, _, _)
  refine ur_svAk [some (.inr (.inr (some 0))), some (.inl a1), some (.inl a2), some (.inl a3), some (.inr (.inr o10)), none] rfl rfl ?_
  refine ur_ldA rfl rfl ?_
  refine ur_get rfl hc6 rfl ?_
  refine ur_ldI rfl rfl ?_
  refine ur_inl rfl (rcv_of hc1) (Nat.le_of_ble_eq_true rfl) (Nat.le_of_ble_eq_true rfl) (sd_X6_cometAt hO0 _ pre0 (fun w14 hr15 => ?_))
  obtain ⟨o16, rfl, k17, t18, t19⟩ := hr15
  show uRun _ (uCall Mt _) _ 18 (_, [(.inr (.inr o16))], _, _, _)
  refine ur_svAk [some (.inr (.inr (some 0))), some (.inl a1), some (.inl a2), some (.inl a3), some (.inr (.inr o10)), some (.inr (.inr o16))] rfl rfl ?_
  refine ur_ldA rfl rfl ?_
  cases o10 with
  | none =>
    refine ur_nulN rfl ?_
    have t21 := t12 rfl
    refine ur_push rfl ?_
    exact ur_ret rfl rfl (hQ _ ⟨_, rfl, ⟨fun _ => by omega, fun q => by exfalso; omega⟩⟩ )
  | some r20 =>
    refine ur_nulS rfl ?_
    have k22 := k11 _ rfl
    have t23 := t13 _ rfl
    refine ur_ldA rfl rfl ?_
    cases o16 with
    | none =>
      refine ur_nulN rfl ?_
      have t25 := t18 rfl
      refine ur_push rfl ?_
      exact ur_ret rfl rfl (hQ _ ⟨_, rfl, ⟨fun _ => by omega, fun q => by exfalso; omega⟩⟩ )
    | some r24 =>
      refine ur_nulS rfl ?_
      have k26 := k17 _ rfl
      have t27 := t19 _ rfl
      refine ur_ldI rfl rfl ?_
      refine ur_push rfl ?_
      refine ur_push rfl ?_
      refine ur_callv rfl rfl (Nat.le_of_ble_eq_true rfl) (Nat.le_of_ble_eq_true rfl) rfl (sp_within _ _ _ _ _) ?_
      refine ur_neB rfl (fun c30 => ?_) (fun c30 => ?_)
      · have t31 := wi_toL c30 l_0 l_180
        obtain ⟨y34, w35, p32, p33⟩ := pre0.2.1 a1.toInt (by omega) (by omega)
        have e36 := cz_u w35 t23.2
        rw [e36] at p32
        unfold CMz CMr at p32
        obtain ⟨g57, f38, f39, f40, f41, f42, f43, f44, f45, f46, f47, q48, q49, o50, q51, hc37, k52, k53, k54, k55, k56⟩ := hO0.comet k22.2
        have t58 := fO_of (k := 2) hc37 rfl
        have t59 := fO_of (k := 3) hc37 rfl
        have t60 := fO_of (k := 4) hc37 rfl
        obtain ⟨y63, w64, p61, p62⟩ := pre0.2.1 a2.toInt (by omega) (by omega)
        have e65 := cz_u w64 t27.2
        rw [e65] at p61
        unfold CMz CMr at p61
        obtain ⟨g86, f67, f68, f69, f70, f71, f72, f73, f74, f75, f76, q77, q78, o79, q80, hc66, k81, k82, k83, k84, k85⟩ := hO0.comet k26.2
        have t87 := fO_of (k := 2) hc66 rfl
        have t88 := fO_of (k := 3) hc66 rfl
        have t89 := fO_of (k := 4) hc66 rfl
        refine ur_ldA rfl rfl ?_
        refine ur_get rfl hc37 rfl ?_
        refine ur_ldA rfl rfl ?_
        refine ur_get rfl hc66 rfl ?_
        have z90 := any_r f42
        have z91 := any_r f71
        refine ur_if2 rfl (fun c92 => ?_) (fun c92 => ?_)
        · have t93 := ne_to c92
          refine ur_push rfl ?_
          exact ur_ret rfl rfl (hQ _ ⟨_, rfl, ⟨fun q => absurd (by omega) q, fun _ => ⟨r20, r24, t23.2, t27.2, fun q => by omega, fun q => by omega⟩⟩⟩ )
        · have t94 := ne_no c92
          refine ur_ldA rfl rfl ?_
          refine ur_get rfl hc37 rfl ?_
          refine ur_ldA rfl rfl ?_
          refine ur_get rfl hc66 rfl ?_
          refine ur_binV rfl (fun x95 e96 => ?_)
          have z97 := any_r f40
          have z98 := any_r f69
          have t99 := ti_sub e96 (by omega) (by omega)
          refine ur_ldA rfl rfl ?_
          refine ur_get rfl hc37 rfl ?_
          refine ur_ldA rfl rfl ?_
          refine ur_get rfl hc66 rfl ?_
          refine ur_binV rfl (fun x100 e101 => ?_)
          have z102 := any_r f41
          have z103 := any_r f70
          have t104 := ti_sub e101 (by omega) (by omega)
          refine ur_ldI rfl rfl ?_
          refine ur_inl rfl rfl (Nat.le_of_ble_eq_true rfl) (Nat.le_of_ble_eq_true rfl) (sd_X11_isNear hO0 _ (by show -359 ≤ x95.toInt ∧ x95.toInt ≤ 359; omega) _ (by show -94 ≤ x100.toInt ∧ x100.toInt ≤ 94; omega) _ (by show 0 ≤ a3.toInt ∧ a3.toInt ≤ 180; omega) (fun w105 hr106 => ?_))
          obtain ⟨b107, rfl, t108, t109⟩ := hr106
          show uRun _ (uCall Mt _) _ 82 (_, [(.inl (bi b107))], _, _, _)
          refine ur_eqB rfl (fun c110 => ?_) (fun c110 => ?_)
          · have t111 := t109 c110
            clear t108 t109
            refine ur_push rfl ?_
            exact ur_ret rfl rfl (hQ _ ⟨_, rfl, ⟨fun q => absurd (by omega) q, fun _ => ⟨r20, r24, t23.2, t27.2, fun q => by omega, fun q => by omega⟩⟩⟩ )
          · have t112 := t108 c110
            clear t108 t109
            refine ur_push rfl ?_
            refine ur_go rfl ?_
            exact ur_ret rfl rfl (hQ _ ⟨_, rfl, ⟨fun q => absurd (by omega) q, fun _ => ⟨r20, r24, t23.2, t27.2, fun q => by omega, fun q => by omega⟩⟩⟩ )
      · have t113 := wi_noL c30 l_0 l_180
        refine ur_push rfl ?_
        exact ur_ret rfl rfl (hQ _ ⟨_, rfl, ⟨fun _ => by omega, fun q => by exfalso; omega⟩⟩ )

set_option maxRecDepth 20000 in
set_option maxHeartbeats 4000000 in
theorem sd_X12_alike {d kc ks : Nat} {h0 : aH} {Q : Option aV → aH → Prop} (hO0 : OK h0) (a1 : Int32) (a2 : Int32) (a3 : Int32) (pre0 : SKm h0) (hQ : ∀ r, (∃ x : Int32, r = some (.inl x) ∧ ((¬ ((0 ≤ a1.toInt ∧ a1.toInt < fI h0 4) ∧ (0 ≤ a2.toInt ∧ a2.toInt < fI h0 4) ∧ 0 ≤ a3.toInt ∧ a3.toInt ≤ 180) → x.toInt = -1) ∧ (((0 ≤ a1.toInt ∧ a1.toInt < fI h0 4) ∧ (0 ≤ a2.toInt ∧ a2.toInt < fI h0 4) ∧ 0 ≤ a3.toInt ∧ a3.toInt ≤ 180) → ((gI h0 76 a1.toInt = gI h0 76 a2.toInt ∧ (((-a3.toInt ≤ (gI h0 74 a1.toInt - gI h0 74 a2.toInt) ∧ (gI h0 74 a1.toInt - gI h0 74 a2.toInt) ≤ a3.toInt) ∨ 360 - a3.toInt ≤ (gI h0 74 a1.toInt - gI h0 74 a2.toInt) ∨ (gI h0 74 a1.toInt - gI h0 74 a2.toInt) ≤ a3.toInt - 360) ∧ -a3.toInt ≤ (gI h0 75 a1.toInt - gI h0 75 a2.toInt) ∧ (gI h0 75 a1.toInt - gI h0 75 a2.toInt) ≤ a3.toInt)) → x.toInt = 1) ∧ (¬ (gI h0 76 a1.toInt = gI h0 76 a2.toInt ∧ (((-a3.toInt ≤ (gI h0 74 a1.toInt - gI h0 74 a2.toInt) ∧ (gI h0 74 a1.toInt - gI h0 74 a2.toInt) ≤ a3.toInt) ∨ 360 - a3.toInt ≤ (gI h0 74 a1.toInt - gI h0 74 a2.toInt) ∨ (gI h0 74 a1.toInt - gI h0 74 a2.toInt) ≤ a3.toInt - 360) ∧ -a3.toInt ≤ (gI h0 75 a1.toInt - gI h0 75 a2.toInt) ∧ (gI h0 75 a1.toInt - gI h0 75 a2.toInt) ≤ a3.toInt)) → x.toInt = 0)))) → Q r h0) : uCall Mt (d + 3) 271 [(.inr (.inr (some 69))), (.inl a1), (.inl a2), (.inl a3)] h0 kc ks Q := by
  have l_m1 : ((-1) : Int32).toInt = -1 := by decide
  have l_0 : ((0) : Int32).toInt = 0 := by decide
  have l_1 : ((1) : Int32).toInt = 1 := by decide
  have l_180 : ((180) : Int32).toInt = 180 := by decide
  refine uc_ink [some (.inr (.inr (some 69))), some (.inl a1), some (.inl a2), some (.inl a3)] mt_271 (Nat.le_of_ble_eq_true rfl) rfl ?_
  obtain ⟨fs1, hc2⟩ := hO0.mod
  obtain ⟨f3, p4, t5⟩ := mf_4 hO0 hc2
  have t6 := fI_of hc2 p4
  refine ur_ldA rfl rfl ?_
  refine ur_ldI rfl rfl ?_
  refine ur_inl rfl (rcv_of hc2) (Nat.le_of_ble_eq_true rfl) (Nat.le_of_ble_eq_true rfl) (sd_X12_isComet hO0 _ (fun w7 hr8 => ?_))
  obtain ⟨b9, rfl, t10, t11⟩ := hr8
  show uRun _ (uCall Mt _) _ 5 (_, [(.inl (bi b9))], _, _, _)
  refine ur_eqB rfl (fun c12 => ?_) (fun c12 => ?_)
  · have t13 := t11 c12
    clear t10 t11
    refine ur_push rfl ?_
    exact ur_ret rfl rfl (hQ _ ⟨_, rfl, ⟨fun _ => by omega, fun q => by exfalso; omega⟩⟩ )
  · have t14 := t10 c12
    clear t10 t11
    refine ur_ldA rfl rfl ?_
    refine ur_ldI rfl rfl ?_
    refine ur_inl rfl (rcv_of hc2) (Nat.le_of_ble_eq_true rfl) (Nat.le_of_ble_eq_true rfl) (sd_X12_isComet hO0 _ (fun w15 hr16 => ?_))
    obtain ⟨b17, rfl, t18, t19⟩ := hr16
    show uRun _ (uCall Mt _) _ 13 (_, [(.inl (bi b17))], _, _, _)
    refine ur_eqB rfl (fun c20 => ?_) (fun c20 => ?_)
    · have t21 := t19 c20
      clear t18 t19
      refine ur_push rfl ?_
      exact ur_ret rfl rfl (hQ _ ⟨_, rfl, ⟨fun _ => by omega, fun q => by exfalso; omega⟩⟩ )
    · have t22 := t18 c20
      clear t18 t19
      refine ur_ldI rfl rfl ?_
      refine ur_push rfl ?_
      refine ur_push rfl ?_
      refine ur_callv rfl rfl (Nat.le_of_ble_eq_true rfl) (Nat.le_of_ble_eq_true rfl) rfl (sp_in _ _ _ _ _) ?_
      refine ur_neB rfl (fun c25 => ?_) (fun c25 => ?_)
      · have t26 := wi_toL c25 l_0 l_180
        have r27 := (pre0.2.1 a1.toInt (by omega) (by omega)).1
        unfold CMm CMr at r27
        have r28 := (pre0.2.1 a2.toInt (by omega) (by omega)).1
        unfold CMm CMr at r28
        refine ur_ldA rfl rfl ?_
        refine ur_get rfl hc2 (mf_7 hO0 hc2) ?_
        refine ur_ldI rfl rfl ?_
        obtain ⟨xs30, hc29, hn31, he32⟩ := hO0.int (hO0.fix 74 (by decide) rfl)
        refine ur_aldV rfl hc29 hn31 (by omega) (fun x33 hx34 => ?_)
        have t35 := gI_of (j := a1) hc29 hx34
        refine ur_ldA rfl rfl ?_
        refine ur_get rfl hc2 (mf_7 hO0 hc2) ?_
        refine ur_ldI rfl rfl ?_
        refine ur_aldV rfl hc29 hn31 (by omega) (fun x36 hx37 => ?_)
        have t38 := gI_of (j := a2) hc29 hx37
        refine ur_inl rfl rfl (Nat.le_of_ble_eq_true rfl) (Nat.le_of_ble_eq_true rfl) (sd_X12_apartOf hO0 _ (by show -400 ≤ x33.toInt ∧ x33.toInt ≤ 400; omega) _ (by show -400 ≤ x36.toInt ∧ x36.toInt ≤ 400; omega) (by omega) (fun w39 hr40 => ?_))
        obtain ⟨x41, rfl, f42⟩ := hr40
        show uRun _ (uCall Mt _) _ 44 (_, [(.inl x41)], _, _, _)
        refine ur_ldI rfl rfl ?_
        have z43 := any_r x41
        have z44 := any_r a3
        refine ur_if2 rfl (fun c45 => ?_) (fun c45 => ?_)
        · have t46 := lt_to c45
          refine ur_push rfl ?_
          exact ur_ret rfl rfl (hQ _ ⟨_, rfl, ⟨fun q => absurd (by omega) q, fun _ => ⟨fun q => by omega, fun q => by omega⟩⟩⟩ )
        · have t47 := lt_no c45
          refine ur_ldA rfl rfl ?_
          refine ur_get rfl hc2 (mf_8 hO0 hc2) ?_
          refine ur_ldI rfl rfl ?_
          obtain ⟨xs49, hc48, hn50, he51⟩ := hO0.int (hO0.fix 75 (by decide) rfl)
          refine ur_aldV rfl hc48 hn50 (by omega) (fun x52 hx53 => ?_)
          have t54 := gI_of (j := a1) hc48 hx53
          have t55 : 0 ≤ x52.toInt ∧ x52.toInt ≤ 99 := he51 _ _ hx53
          refine ur_ldA rfl rfl ?_
          refine ur_get rfl hc2 (mf_8 hO0 hc2) ?_
          refine ur_ldI rfl rfl ?_
          refine ur_aldV rfl hc48 hn50 (by omega) (fun x56 hx57 => ?_)
          have t58 := gI_of (j := a2) hc48 hx57
          have t59 : 0 ≤ x56.toInt ∧ x56.toInt ≤ 99 := he51 _ _ hx57
          refine ur_binV rfl (fun x60 e61 => ?_)
          have z62 := any_r x52
          have z63 := any_r x56
          have t64 := ti_sub e61 (by omega) (by omega)
          refine ur_inl rfl rfl (Nat.le_of_ble_eq_true rfl) (Nat.le_of_ble_eq_true rfl) (sf_X12_sizeOf _ (fun w65 hr66 => ?_))
          obtain ⟨x67, rfl, t68⟩ := hr66
          show uRun _ (uCall Mt _) _ 64 (_, [(.inl x67)], _, _, _)
          refine ur_ldI rfl rfl ?_
          have z69 := any_r x67
          refine ur_if2 rfl (fun c70 => ?_) (fun c70 => ?_)
          · have t71 := lt_to c70
            refine ur_push rfl ?_
            exact ur_ret rfl rfl (hQ _ ⟨_, rfl, ⟨fun q => absurd (by omega) q, fun _ => ⟨fun q => by omega, fun q => by omega⟩⟩⟩ )
          · have t72 := lt_no c70
            refine ur_ldA rfl rfl ?_
            refine ur_get rfl hc2 (mf_9 hO0 hc2) ?_
            refine ur_ldI rfl rfl ?_
            obtain ⟨xs74, hc73, hn75, he76⟩ := hO0.int (hO0.fix 76 (by decide) rfl)
            refine ur_aldV rfl hc73 hn75 (by omega) (fun x77 hx78 => ?_)
            have t79 := gI_of (j := a1) hc73 hx78
            refine ur_ldA rfl rfl ?_
            refine ur_get rfl hc2 (mf_9 hO0 hc2) ?_
            refine ur_ldI rfl rfl ?_
            refine ur_aldV rfl hc73 hn75 (by omega) (fun x80 hx81 => ?_)
            have t82 := gI_of (j := a2) hc73 hx81
            have z83 := any_r x77
            have z84 := any_r x80
            refine ur_if2 rfl (fun c85 => ?_) (fun c85 => ?_)
            · have t86 := ne_to c85
              refine ur_push rfl ?_
              exact ur_ret rfl rfl (hQ _ ⟨_, rfl, ⟨fun q => absurd (by omega) q, fun _ => ⟨fun q => by omega, fun q => by omega⟩⟩⟩ )
            · have t87 := ne_no c85
              refine ur_push rfl ?_
              refine ur_go rfl ?_
              exact ur_ret rfl rfl (hQ _ ⟨_, rfl, ⟨fun q => absurd (by omega) q, fun _ => ⟨fun q => by omega, fun q => by omega⟩⟩⟩ )
      · have t88 := wi_noL c25 l_0 l_180
        refine ur_push rfl ?_
        exact ur_ret rfl rfl (hQ _ ⟨_, rfl, ⟨fun _ => by omega, fun q => by exfalso; omega⟩⟩ )

set_option maxRecDepth 20000 in
set_option maxHeartbeats 4000000 in
theorem sd_X6_foretell {d kc ks : Nat} {h0 : aH} {Q : Option aV → aH → Prop} (hO0 : OK h0) {a1 : Nat} (g1 : 114 ≤ a1) (t1 : tg h0 a1 = (102, 14)) (a2 : Int32) (b2 : 0 ≤ a2.toInt ∧ a2.toInt ≤ 60) (a3 : Int32) (pre0 : RPc h0) (pre1 : 0 ≤ fO h0 a1 0 ∧ fO h0 a1 0 ≤ 999999) (pre2 : -400 ≤ fO h0 a1 1 ∧ fO h0 a1 1 ≤ 40400) (hQ : ∀ r, (∃ x : Int32, r = some (.inl x) ∧ (((fb (fun t => t + fO h0 a1 1 + plF (gI h0 2) (gI h0 3) a3 t (fO h0 1 2).toNat) a2.toInt.toNat (fO h0 a1 0)) = -1 → x.toInt = -2000000000) ∧ ((fb (fun t => t + fO h0 a1 1 + plF (gI h0 2) (gI h0 3) a3 t (fO h0 1 2).toNat) a2.toInt.toNat (fO h0 a1 0)) ≠ -1 → x.toInt = fb (fun t => t + fO h0 a1 1 + plF (gI h0 2) (gI h0 3) a3 t (fO h0 1 2).toNat) a2.toInt.toNat (fO h0 a1 0)))) → Q r h0) : uCall Mt (d + 3) 63 [(.inr (.inr (some 1))), (.inr (.inr (some a1))), (.inl a2), (.inl a3)] h0 kc ks Q := by
  have l_m2000000000 : ((-2000000000) : Int32).toInt = -2000000000 := by decide
  have l_0 : ((0) : Int32).toInt = 0 := by decide
  have l_1 : ((1) : Int32).toInt = 1 := by decide
  have l_999999 : ((999999) : Int32).toInt = 999999 := by decide
  refine uc_ink [some (.inr (.inr (some 1))), some (.inr (.inr (some a1))), some (.inl a2), some (.inl a3), none, none] mt_63 (Nat.le_of_ble_eq_true rfl) rfl ?_
  obtain ⟨f2, f3, hc1, k4⟩ := ok_1 hO0
  have t5 := fO_of (k := 2) hc1 rfl
  obtain ⟨g26, f7, f8, f9, f10, f11, f12, f13, f14, f15, f16, q17, q18, o19, q20, hc6, k21, k22, k23, k24, k25⟩ := hO0.comet t1
  have t27 := fO_of (k := 0) hc6 rfl
  have t28 := fO_of (k := 1) hc6 rfl
  refine ur_ldA rfl rfl ?_
  refine ur_get rfl hc6 rfl ?_
  refine ur_svIk [some (.inr (.inr (some 1))), some (.inr (.inr (some a1))), some (.inl a2), some (.inl a3), some (.inl f7), none] rfl rfl ?_
  refine ur_push rfl ?_
  refine ur_svIk [some (.inr (.inr (some 1))), some (.inr (.inr (some a1))), some (.inl a2), some (.inl a3), some (.inl f7), some (.inl 0)] rfl rfl ?_
  have L31 : ∀ (m32 : Nat) (x29 : Int32) (x30 : Int32) , ((0 ≤ x29.toInt ∧ x29.toInt ≤ 999999) ∧ (0 ≤ x30.toInt ∧ x30.toInt ≤ 60) ∧ x30.toInt ≤ a2.toInt) → (fb (fun t => t + fO h0 a1 1 + plF (gI h0 2) (gI h0 3) a3 t (fO h0 1 2).toNat) (a2.toInt - x30.toInt).toNat x29.toInt = fb (fun t => t + fO h0 a1 1 + plF (gI h0 2) (gI h0 3) a3 t (fO h0 1 2).toNat) a2.toInt.toNat (fO h0 a1 0)) → ((61 - x30.toInt).toNat) < m32 → uRun oX6_foretell (uCall Mt (d + 2)) Q 9 ([some (.inr (.inr (some 1))), some (.inr (.inr (some a1))), some (.inl a2), some (.inl a3), some (.inl x29), some (.inl x30)], [], h0, kc, ks) := by
    intro m32
    induction m32 with
    | zero => intro x29 x30 iv35 px34 mm36; omega
    | succ m32 ih33 =>
      intro x29 x30 iv35 px34 mm36
      refine ur_ldI rfl rfl ?_
      refine ur_ldI rfl rfl ?_
      have z37 := any_r x30
      have z38 := any_r a2
      refine ur_if2 rfl (fun c39 => ?_) (fun c39 => ?_)
      · have t40 := le_to c39
        refine ur_ldI rfl rfl ?_
        exact ur_ret rfl rfl (hQ _ ⟨_, rfl, ⟨fun q => by have w := (px34.symm.trans (fb_0 (by omega))); rw [q] at w; omega, fun _ => (px34.symm.trans (fb_0 (by omega))).symm⟩⟩ )
      · have t41 := le_no c39
        refine ur_ldI rfl rfl ?_
        refine ur_ldA rfl rfl ?_
        refine ur_get rfl hc6 rfl ?_
        refine ur_ldA rfl rfl ?_
        refine ur_ldI rfl rfl ?_
        refine ur_ldI rfl rfl ?_
        refine ur_inl rfl (rcv_of hc1) (Nat.le_of_ble_eq_true rfl) (Nat.le_of_ble_eq_true rfl) (sd_X6_pulledFrom hO0 _ (by show 0 ≤ x29.toInt ∧ x29.toInt ≤ 999999; omega) _ pre0 (fun w42 hr43 => ?_))
        obtain ⟨x44, rfl, f45⟩ := hr43
        show uRun _ (uCall Mt _) _ 28 (_, [(.inl x44), (.inl f8), (.inl x29)], _, _, _)
        have t46 : (fun t => t + fO h0 a1 1 + plF (gI h0 2) (gI h0 3) a3 t (fO h0 1 2).toNat) x29.toInt = x29.toInt + fO h0 a1 1 + x44.toInt := by show x29.toInt + fO h0 a1 1 + plF (gI h0 2) (gI h0 3) a3 x29.toInt (fO h0 1 2).toNat = _; rw [f45.1.2]
        refine ur_binV rfl (fun x47 e48 => ?_)
        have z49 := any_r f8
        have z50 := any_r x44
        have t51 := ti_add e48 (by omega) (by omega)
        refine ur_binV rfl (fun x52 e53 => ?_)
        have z54 := any_r x29
        have z55 := any_r x47
        have t56 := ti_add e53 (by omega) (by omega)
        refine ur_svIk [some (.inr (.inr (some 1))), some (.inr (.inr (some a1))), some (.inl a2), some (.inl a3), some (.inl x52), some (.inl x30)] rfl rfl ?_
        refine ur_ldI rfl rfl ?_
        refine ur_callv rfl rfl (Nat.le_of_ble_eq_true rfl) (Nat.le_of_ble_eq_true rfl) rfl (sp_isDay _ _) ?_
        refine ur_neB rfl (fun c59 => ?_) (fun c59 => ?_)
        · have t60 := wi_toL c59 l_0 l_999999
          refine ur_incV (fun z => [some (.inr (.inr (some 1))), some (.inr (.inr (some a1))), some (.inl a2), some (.inl a3), some (.inl x52), some (.inl z)]) rfl rfl (fun _ => rfl) (fun x61 e62 => ?_)
          have t63 := ti_add e62 (by omega) (by omega)
          refine ur_go rfl ?_
          have z64 := any_r x52
          have z65 := any_r x61
          exact ih33 x52 x61 (by omega) ((fb_y (nx := (fun t => t + fO h0 a1 1 + plF (gI h0 2) (gI h0 3) a3 t (fO h0 1 2).toNat)) (v := x52.toInt) (k := a2.toInt - x30.toInt) (k' := a2.toInt - x61.toInt) (by omega) (t46.trans (by omega)) (by omega) (by omega)).symm.trans px34) (by omega)
        · have t66 := wi_noL c59 l_0 l_999999
          refine ur_push rfl ?_
          exact ur_ret rfl rfl (hQ _ ⟨_, rfl, ⟨fun _ => by decide, fun q => absurd (px34.symm.trans (fb_n (v := x52.toInt) (by omega) (t46.trans (by omega)) (by omega))) q⟩⟩ )
  have z67 := any_r f7
  exact L31 _ f7 0 (by omega) (by rw [show a2.toInt - ((0 : Int32)).toInt = a2.toInt by omega, show f7.toInt = fO h0 a1 0 by omega]) (Nat.lt_succ_self _)

set_option maxRecDepth 20000 in
set_option maxHeartbeats 4000000 in
theorem sd_X12_passBy {d kc ks : Nat} {h0 : aH} {Q : Option aV → aH → Prop} (hO0 : OK h0) (hX0 : SX h0) (a1 : Int32) (b1 : 0 ≤ a1.toInt ∧ a1.toInt ≤ 11) (a2 : Int32) (b2 : 0 ≤ a2.toInt ∧ a2.toInt ≤ 60) (a3 : Int32) (pre0 : SKm h0) (pre1 : a1.toInt < fI h0 4) (hQ : ∀ r, (∃ x : Int32, r = some (.inl x) ∧ (x.toInt = fb (fun t => t + gI h0 73 a1.toInt + plF (gI h0 70) (gI h0 71) a3 t (fI h0 1).toNat) a2.toInt.toNat (gI h0 72 a1.toInt) ∧ -1 ≤ x.toInt ∧ x.toInt ≤ 999999)) → Q r h0) : uCall Mt (d + 3) 274 [(.inr (.inr (some 69))), (.inl a1), (.inl a2), (.inl a3)] h0 kc ks Q := by
  have l_m1 : ((-1) : Int32).toInt = -1 := by decide
  have l_0 : ((0) : Int32).toInt = 0 := by decide
  have l_1 : ((1) : Int32).toInt = 1 := by decide
  have l_999999 : ((999999) : Int32).toInt = 999999 := by decide
  refine uc_ink [some (.inr (.inr (some 69))), some (.inl a1), some (.inl a2), some (.inl a3), none, none] mt_274 (Nat.le_of_ble_eq_true rfl) rfl ?_
  obtain ⟨fs1, hc2⟩ := hO0.mod
  obtain ⟨f3, p4, t5⟩ := mf_1 hO0 hc2
  have t6 := fI_of hc2 p4
  obtain ⟨f7, p8, t9⟩ := mf_4 hO0 hc2
  have t10 := fI_of hc2 p8
  have r11 := (pre0.2.1 a1.toInt (by omega) (by omega)).1
  unfold CMm CMr at r11
  refine ur_ldA rfl rfl ?_
  refine ur_get rfl hc2 (mf_5 hO0 hc2) ?_
  refine ur_ldI rfl rfl ?_
  obtain ⟨xs13, hc12, hn14, he15⟩ := hO0.int (hO0.fix 72 (by decide) rfl)
  refine ur_aldV rfl hc12 hn14 (by omega) (fun x16 hx17 => ?_)
  have t18 := gI_of (j := a1) hc12 hx17
  have t19 : 0 ≤ x16.toInt ∧ x16.toInt ≤ 999999 := he15 _ _ hx17
  refine ur_svIk [some (.inr (.inr (some 69))), some (.inl a1), some (.inl a2), some (.inl a3), some (.inl x16), none] rfl rfl ?_
  refine ur_push rfl ?_
  refine ur_svIk [some (.inr (.inr (some 69))), some (.inl a1), some (.inl a2), some (.inl a3), some (.inl x16), some (.inl 0)] rfl rfl ?_
  have L22 : ∀ (m23 : Nat) (x20 : Int32) (x21 : Int32) , ((0 ≤ x20.toInt ∧ x20.toInt ≤ 999999) ∧ (0 ≤ x21.toInt ∧ x21.toInt ≤ 60) ∧ x21.toInt ≤ a2.toInt) → (fb (fun t => t + gI h0 73 a1.toInt + plF (gI h0 70) (gI h0 71) a3 t (fI h0 1).toNat) (a2.toInt - x21.toInt).toNat x20.toInt = fb (fun t => t + gI h0 73 a1.toInt + plF (gI h0 70) (gI h0 71) a3 t (fI h0 1).toNat) a2.toInt.toNat (gI h0 72 a1.toInt)) → ((61 - x21.toInt).toNat) < m23 → uRun oX12_passBy (uCall Mt (d + 2)) Q 11 ([some (.inr (.inr (some 69))), some (.inl a1), some (.inl a2), some (.inl a3), some (.inl x20), some (.inl x21)], [], h0, kc, ks) := by
    intro m23
    induction m23 with
    | zero => intro x20 x21 iv26 px25 mm27; omega
    | succ m23 ih24 =>
      intro x20 x21 iv26 px25 mm27
      refine ur_ldI rfl rfl ?_
      refine ur_ldI rfl rfl ?_
      have z28 := any_r x21
      have z29 := any_r a2
      refine ur_if2 rfl (fun c30 => ?_) (fun c30 => ?_)
      · have t31 := le_to c30
        refine ur_ldI rfl rfl ?_
        exact ur_ret rfl rfl (hQ _ ⟨_, rfl, ⟨((px25.symm.trans (fb_0 (by omega)))).symm, by omega⟩⟩ )
      · have t32 := le_no c30
        refine ur_ldA rfl rfl ?_
        refine ur_ldI rfl rfl ?_
        refine ur_ldA rfl rfl ?_
        refine ur_get rfl hc2 (mf_6 hO0 hc2) ?_
        refine ur_ldI rfl rfl ?_
        obtain ⟨xs34, hc33, hn35, he36⟩ := hO0.int (hO0.fix 73 (by decide) rfl)
        refine ur_aldV rfl hc33 hn35 (by omega) (fun x37 hx38 => ?_)
        have t39 := gI_of (j := a1) hc33 hx38
        refine ur_ldI rfl rfl ?_
        refine ur_inl rfl (rcv_of hc2) (Nat.le_of_ble_eq_true rfl) (Nat.le_of_ble_eq_true rfl) (sd_X12_passBehind hO0 hX0 _ (by show 0 ≤ x20.toInt ∧ x20.toInt ≤ 999999; omega) _ (by show -100000 ≤ x37.toInt ∧ x37.toInt ≤ 100000; omega) _ (pre0.1) (fun w40 hr41 => ?_))
        obtain ⟨x42, rfl, f43⟩ := hr41
        show uRun _ (uCall Mt _) _ 30 (_, [(.inl x42)], _, _, _)
        have t44 : (fun t => t + gI h0 73 a1.toInt + plF (gI h0 70) (gI h0 71) a3 t (fI h0 1).toNat) x20.toInt = x42.toInt := by show x20.toInt + gI h0 73 a1.toInt + plF (gI h0 70) (gI h0 71) a3 x20.toInt (fI h0 1).toNat = _; rw [f43.1.2]; omega
        refine ur_svIk [some (.inr (.inr (some 69))), some (.inl a1), some (.inl a2), some (.inl a3), some (.inl x42), some (.inl x21)] rfl rfl ?_
        refine ur_ldI rfl rfl ?_
        refine ur_callv rfl rfl (Nat.le_of_ble_eq_true rfl) (Nat.le_of_ble_eq_true rfl) rfl (sq_isDay _ _) ?_
        refine ur_neB rfl (fun c47 => ?_) (fun c47 => ?_)
        · have t48 := wi_toL c47 l_0 l_999999
          refine ur_incV (fun z => [some (.inr (.inr (some 69))), some (.inl a1), some (.inl a2), some (.inl a3), some (.inl x42), some (.inl z)]) rfl rfl (fun _ => rfl) (fun x49 e50 => ?_)
          have t51 := ti_add e50 (by omega) (by omega)
          refine ur_go rfl ?_
          have z52 := any_r x42
          have z53 := any_r x49
          exact ih24 x42 x49 (by omega) ((fb_y (nx := (fun t => t + gI h0 73 a1.toInt + plF (gI h0 70) (gI h0 71) a3 t (fI h0 1).toNat)) (v := x42.toInt) (k := a2.toInt - x21.toInt) (k' := a2.toInt - x49.toInt) (by omega) t44 (by omega) (by omega)).symm.trans px25) (by omega)
        · have t54 := wi_noL c47 l_0 l_999999
          refine ur_push rfl ?_
          exact ur_ret rfl rfl (hQ _ ⟨_, rfl, ⟨(show ((-1) : Int32).toInt = -1 by decide).trans (px25.symm.trans (fb_n (v := x42.toInt) (by omega) t44 (by omega))).symm, by omega⟩⟩ )
  have z55 := any_r x16
  exact L22 _ x16 0 (by omega) (by rw [show a2.toInt - ((0 : Int32)).toInt = a2.toInt by omega, show x16.toInt = gI h0 72 a1.toInt by omega]) (Nat.lt_succ_self _)

set_option maxRecDepth 20000 in
set_option maxHeartbeats 4000000 in
theorem sd_X11_foretold {d kc ks : Nat} {h0 : aH} {Q : Option aV → aH → Prop} (hO0 : OK h0) (a1 : Int32) (a2 : Int32) (a3 : Int32) (a4 : Int32) (pre0 : SKc h0) (hQ : ∀ r, (∃ x : Int32, r = some (.inl x) ∧ ((¬ ((0 ≤ a1.toInt ∧ a1.toInt < fO h0 1 4) ∧ (0 ≤ a2.toInt ∧ a2.toInt ≤ 60) ∧ (0 ≤ a4.toInt ∧ a4.toInt ≤ 1) ∧ 0 ≤ a3.toInt ∧ a3.toInt ≤ (agV (fO h0 1 2)).toInt) → x.toInt = -2000000000) ∧ (((0 ≤ a1.toInt ∧ a1.toInt < fO h0 1 4) ∧ (0 ≤ a2.toInt ∧ a2.toInt ≤ 60) ∧ (0 ≤ a4.toInt ∧ a4.toInt ≤ 1) ∧ 0 ≤ a3.toInt ∧ a3.toInt ≤ (agV (fO h0 1 2)).toInt) → ∃ z, cz h0 a1.toInt z ∧ (fb (fun t => t + fO h0 z 1 + plF (gI h0 2) (gI h0 3) a3 t (fO h0 1 2).toNat) a2.toInt.toNat (fO h0 z 0) = -1 → x.toInt = -2000000000) ∧ (fb (fun t => t + fO h0 z 1 + plF (gI h0 2) (gI h0 3) a3 t (fO h0 1 2).toNat) a2.toInt.toNat (fO h0 z 0) ≠ -1 → (a4.toInt = 0 → x.toInt = fb (fun t => t + fO h0 z 1 + plF (gI h0 2) (gI h0 3) a3 t (fO h0 1 2).toNat) a2.toInt.toNat (fO h0 z 0)) ∧ (a4.toInt = 1 → (¬ (fO h0 z 8 ≤ a2.toInt ∧ a2.toInt ≤ fO h0 z 9) → x.toInt = -2000000000) ∧ ((fO h0 z 8 ≤ a2.toInt ∧ a2.toInt ≤ fO h0 z 9) → x.toInt = cf h0 z a2.toInt - fb (fun t => t + fO h0 z 1 + plF (gI h0 2) (gI h0 3) a3 t (fO h0 1 2).toNat) a2.toInt.toNat (fO h0 z 0))))))) → Q r h0) : uCall Mt (d + 4) 152 [(.inr (.inr (some 0))), (.inl a1), (.inl a2), (.inl a3), (.inl a4)] h0 kc ks Q := by
  have l_m2000000000 : ((-2000000000) : Int32).toInt = -2000000000 := by decide
  have l_0 : ((0) : Int32).toInt = 0 := by decide
  have l_1 : ((1) : Int32).toInt = 1 := by decide
  have l_60 : ((60) : Int32).toInt = 60 := by decide
  refine uc_ink [some (.inr (.inr (some 0))), some (.inl a1), some (.inl a2), some (.inl a3), some (.inl a4), none, none] mt_152 (Nat.le_of_ble_eq_true rfl) rfl ?_
  obtain ⟨f2, f3, hc1, k4⟩ := ok_1 hO0
  have t5 := fO_of (k := 2) hc1 rfl
  have t6 := fO_of (k := 4) hc1 rfl
  refine ur_ldA rfl rfl ?_
  obtain ⟨hc7, k8⟩ := ok_0 hO0
  refine ur_get rfl hc7 rfl ?_
  refine ur_ldI rfl rfl ?_
  refine ur_inl rfl (rcv_of hc1) (Nat.le_of_ble_eq_true rfl) (Nat.le_of_ble_eq_true rfl) (sd_X6_cometAt hO0 _ pre0 (fun w9 hr10 => ?_))
  obtain ⟨o11, rfl, k12, t13, t14⟩ := hr10
  show uRun _ (uCall Mt _) _ 8 (_, [(.inr (.inr o11))], _, _, _)
  refine ur_svAk [some (.inr (.inr (some 0))), some (.inl a1), some (.inl a2), some (.inl a3), some (.inl a4), some (.inr (.inr o11)), none] rfl rfl ?_
  refine ur_ldA rfl rfl ?_
  cases o11 with
  | none =>
    refine ur_nulN rfl ?_
    have t16 := t13 rfl
    refine ur_push rfl ?_
    exact ur_ret rfl rfl (hQ _ ⟨_, rfl, ⟨fun _ => by omega, fun q => by exfalso; omega⟩⟩ )
  | some r15 =>
    refine ur_nulS rfl ?_
    have k17 := k12 _ rfl
    have t18 := t14 _ rfl
    refine ur_ldI rfl rfl ?_
    refine ur_push rfl ?_
    refine ur_push rfl ?_
    refine ur_callv rfl rfl (Nat.le_of_ble_eq_true rfl) (Nat.le_of_ble_eq_true rfl) rfl (sp_within _ _ _ _ _) ?_
    refine ur_eqB rfl (fun c21 => ?_) (fun c21 => ?_)
    · have t22 := wi_noL c21 l_0 l_60
      refine ur_push rfl ?_
      exact ur_ret rfl rfl (hQ _ ⟨_, rfl, ⟨fun _ => by omega, fun q => by exfalso; omega⟩⟩ )
    · have t23 := wi_toL c21 l_0 l_60
      refine ur_ldI rfl rfl ?_
      refine ur_push rfl ?_
      refine ur_push rfl ?_
      refine ur_callv rfl rfl (Nat.le_of_ble_eq_true rfl) (Nat.le_of_ble_eq_true rfl) rfl (sp_within _ _ _ _ _) ?_
      refine ur_neB rfl (fun c26 => ?_) (fun c26 => ?_)
      · have t27 := wi_toL c26 l_0 l_1
        refine ur_ldI rfl rfl ?_
        refine ur_push rfl ?_
        refine ur_ldA rfl rfl ?_
        refine ur_get rfl hc7 rfl ?_
        refine ur_inl rfl (rcv_of hc1) (Nat.le_of_ble_eq_true rfl) (Nat.le_of_ble_eq_true rfl) (sd_X6_allGreats hO0  (fun w28 hr29 => ?_))
        obtain ⟨x30, rfl, f31⟩ := hr29
        show uRun _ (uCall Mt _) _ 47 (_, [(.inl x30), (.inl 0), (.inl a3)], _, _, _)
        have t32 : x30.toInt = (agV (fO h0 1 2)).toInt := congrArg Int32.toInt f31.1
        refine ur_callv rfl rfl (Nat.le_of_ble_eq_true rfl) (Nat.le_of_ble_eq_true rfl) rfl (sp_within _ _ _ _ _) ?_
        refine ur_neB rfl (fun c35 => ?_) (fun c35 => ?_)
        · have t36 := wi_to c35
          obtain ⟨y37, w38, p39, p40⟩ := pre0.2.1 a1.toInt (by omega) (by omega)
          have e41 := cz_u w38 t18.2
          rw [e41] at p39 p40
          unfold CMz CMr at p39
          have p40 := p40 (by omega)
          obtain ⟨g62, f43, f44, f45, f46, f47, f48, f49, f50, f51, f52, q53, q54, o55, q56, hc42, k57, k58, k59, k60, k61⟩ := hO0.comet k17.2
          have t63 := fO_of (k := 0) hc42 rfl
          have t64 := fO_of (k := 1) hc42 rfl
          have t65 := fO_of (k := 8) hc42 rfl
          have t66 := fO_of (k := 9) hc42 rfl
          refine ur_ldA rfl rfl ?_
          refine ur_get rfl hc7 rfl ?_
          refine ur_ldA rfl rfl ?_
          refine ur_ldI rfl rfl ?_
          refine ur_ldI rfl rfl ?_
          refine ur_inl rfl (rcv_of hc1) (Nat.le_of_ble_eq_true rfl) (Nat.le_of_ble_eq_true rfl) (sd_X6_foretell hO0 g62 k17.2 _ (by show 0 ≤ a2.toInt ∧ a2.toInt ≤ 60; omega) _ (pre0).1 (by omega) (by omega) (fun w67 hr68 => ?_))
          obtain ⟨x69, rfl, f70⟩ := hr68
          show uRun _ (uCall Mt _) _ 67 (_, [(.inl x69)], _, _, _)
          refine ur_svIk [some (.inr (.inr (some 0))), some (.inl a1), some (.inl a2), some (.inl a3), some (.inl a4), some (.inr (.inr (some r15))), some (.inl x69)] rfl rfl ?_
          refine ur_ldI rfl rfl ?_
          refine ur_push rfl ?_
          refine ur_if2 rfl (fun c71 => ?_) (fun c71 => ?_)
          · have t72 := eq_to c71
            refine ur_ldI rfl rfl ?_
            exact ur_ret rfl rfl (hQ _ ⟨_, rfl, ⟨fun q => absurd (by omega) q, fun _ => ⟨r15, t18.2, fun e => f70.1 e, fun n => ⟨fun _ => f70.2 n, fun q => by have w := f70.2 n; have r := fb_rg2 _ _ (show 0 ≤ _ by omega) (by omega) n; exfalso; omega⟩⟩⟩⟩ )
          · have t73 := eq_no c71
            refine ur_ldI rfl rfl ?_
            refine ur_if1 rfl (fun c74 => ?_) (fun c74 => ?_)
            · have t75 := ne_to c74
              refine ur_ldA rfl rfl ?_
              refine ur_ldI rfl rfl ?_
              refine ur_inl rfl (rcv_of hc42) (Nat.le_of_ble_eq_true rfl) (Nat.le_of_ble_eq_true rfl) (sd_X2_hasReturn hO0 g62 k17.2 _ (fun w76 hr77 => ?_))
              obtain ⟨b78, rfl, t79, t80⟩ := hr77
              show uRun _ (uCall Mt _) _ 90 (_, [(.inl (bi b78))], _, _, _)
              refine ur_eqB rfl (fun c81 => ?_) (fun c81 => ?_)
              · have t82 := t80 c81
                clear t79 t80
                refine ur_push rfl ?_
                exact ur_ret rfl rfl (hQ _ ⟨_, rfl, ⟨fun q => absurd (by omega) q, fun _ => ⟨r15, t18.2, fun _ => by omega, fun n => ⟨fun q => by exfalso; omega, fun _ => ⟨fun _ => by omega, fun q => absurd q (by omega)⟩⟩⟩⟩⟩ )
              · have t83 := t79 c81
                clear t79 t80
                refine ur_ldA rfl rfl ?_
                refine ur_ldI rfl rfl ?_
                refine ur_inl rfl (rcv_of hc42) (Nat.le_of_ble_eq_true rfl) (Nat.le_of_ble_eq_true rfl) (sd_X2_passOf hO0 g62 k17.2 _ (by show -60 ≤ a2.toInt ∧ a2.toInt ≤ 60; omega) (fun w84 hr85 => ?_))
                obtain ⟨x86, rfl, f87⟩ := hr85
                show uRun _ (uCall Mt _) _ 99 (_, [(.inl x86)], _, _, _)
                have t88 : x86.toInt = cf h0 r15 a2.toInt := by unfold cf; rw [if_pos (by omega)]; exact f87
                have r89 := p40.2 a2.toInt (by omega) (by omega)
                rw [← t88] at r89
                have n90 : fb (fun t => t + fO h0 r15 1 + plF (gI h0 2) (gI h0 3) a3 t (fO h0 1 2).toNat) a2.toInt.toNat (fO h0 r15 0) ≠ -1 := fun e => by have w := f70.1 e; omega
                have w91 := f70.2 n90
                have r92 := fb_rg2 _ _ (by omega) (by omega) n90
                rw [← w91] at r92
                refine ur_ldI rfl rfl ?_
                refine ur_binV rfl (fun x93 e94 => ?_)
                have z95 := any_r x86
                have z96 := any_r x69
                have t97 := ti_sub e94 (by omega) (by omega)
                refine ur_go rfl ?_
                exact ur_ret rfl rfl (hQ _ ⟨_, rfl, ⟨fun q => absurd (by omega) q, fun _ => ⟨r15, t18.2, fun e => by have w := f70.1 e; exfalso; omega, fun n => ⟨fun q => by exfalso; omega, fun _ => ⟨fun q => absurd (by omega) q, fun _ => by have w := f70.2 n; rw [← t88]; omega⟩⟩⟩⟩⟩ )
            · have t98 := ne_no c74
              refine ur_ldI rfl rfl ?_
              exact ur_ret rfl rfl (hQ _ ⟨_, rfl, ⟨fun q => absurd (by omega) q, fun _ => ⟨r15, t18.2, fun e => f70.1 e, fun n => ⟨fun _ => f70.2 n, fun q => by have w := f70.2 n; have r := fb_rg2 _ _ (show 0 ≤ _ by omega) (by omega) n; exfalso; omega⟩⟩⟩⟩ )
        · have t99 := wi_no c35
          refine ur_push rfl ?_
          exact ur_ret rfl rfl (hQ _ ⟨_, rfl, ⟨fun _ => by omega, fun q => by exfalso; omega⟩⟩ )
      · have t100 := wi_noL c26 l_0 l_1
        refine ur_push rfl ?_
        exact ur_ret rfl rfl (hQ _ ⟨_, rfl, ⟨fun _ => by omega, fun q => by exfalso; omega⟩⟩ )

set_option maxRecDepth 20000 in
set_option maxHeartbeats 4000000 in
theorem sd_X12_foretold {d kc ks : Nat} {h0 : aH} {Q : Option aV → aH → Prop} (hO0 : OK h0) (hX0 : SX h0) (a1 : Int32) (a2 : Int32) (a3 : Int32) (a4 : Int32) (pre0 : SKm h0) (hQ : ∀ r, (∃ x : Int32, r = some (.inl x) ∧ ((¬ ((0 ≤ a1.toInt ∧ a1.toInt < fI h0 4) ∧ (0 ≤ a2.toInt ∧ a2.toInt ≤ 60) ∧ (0 ≤ a4.toInt ∧ a4.toInt ≤ 1) ∧ 0 ≤ a3.toInt ∧ a3.toInt ≤ (agV (fI h0 1)).toInt) → x.toInt = -2000000000) ∧ (((0 ≤ a1.toInt ∧ a1.toInt < fI h0 4) ∧ (0 ≤ a2.toInt ∧ a2.toInt ≤ 60) ∧ (0 ≤ a4.toInt ∧ a4.toInt ≤ 1) ∧ 0 ≤ a3.toInt ∧ a3.toInt ≤ (agV (fI h0 1)).toInt) → (fb (fun t => t + gI h0 73 a1.toInt + plF (gI h0 70) (gI h0 71) a3 t (fI h0 1).toNat) a2.toInt.toNat (gI h0 72 a1.toInt) = -1 → x.toInt = -2000000000) ∧ (fb (fun t => t + gI h0 73 a1.toInt + plF (gI h0 70) (gI h0 71) a3 t (fI h0 1).toNat) a2.toInt.toNat (gI h0 72 a1.toInt) ≠ -1 → (a4.toInt = 0 → x.toInt = fb (fun t => t + gI h0 73 a1.toInt + plF (gI h0 70) (gI h0 71) a3 t (fI h0 1).toNat) a2.toInt.toNat (gI h0 72 a1.toInt)) ∧ (a4.toInt = 1 → (fb (fun t => t + gI h0 73 a1.toInt + plF (gI h0 70) (gI h0 71) (agV (fI h0 1)) t (fI h0 1).toNat) a2.toInt.toNat (gI h0 72 a1.toInt) = -1 → x.toInt = -2000000000) ∧ (fb (fun t => t + gI h0 73 a1.toInt + plF (gI h0 70) (gI h0 71) (agV (fI h0 1)) t (fI h0 1).toNat) a2.toInt.toNat (gI h0 72 a1.toInt) ≠ -1 → x.toInt = fb (fun t => t + gI h0 73 a1.toInt + plF (gI h0 70) (gI h0 71) (agV (fI h0 1)) t (fI h0 1).toNat) a2.toInt.toNat (gI h0 72 a1.toInt) - fb (fun t => t + gI h0 73 a1.toInt + plF (gI h0 70) (gI h0 71) a3 t (fI h0 1).toNat) a2.toInt.toNat (gI h0 72 a1.toInt))))))) → Q r h0) : uCall Mt (d + 4) 275 [(.inr (.inr (some 69))), (.inl a1), (.inl a2), (.inl a3), (.inl a4)] h0 kc ks Q := by
  have l_m2000000000 : ((-2000000000) : Int32).toInt = -2000000000 := by decide
  have l_0 : ((0) : Int32).toInt = 0 := by decide
  have l_1 : ((1) : Int32).toInt = 1 := by decide
  have l_60 : ((60) : Int32).toInt = 60 := by decide
  refine uc_ink [some (.inr (.inr (some 69))), some (.inl a1), some (.inl a2), some (.inl a3), some (.inl a4), none, none] mt_275 (Nat.le_of_ble_eq_true rfl) rfl ?_
  obtain ⟨fs1, hc2⟩ := hO0.mod
  obtain ⟨f3, p4, t5⟩ := mf_1 hO0 hc2
  have t6 := fI_of hc2 p4
  obtain ⟨f7, p8, t9⟩ := mf_4 hO0 hc2
  have t10 := fI_of hc2 p8
  refine ur_ldA rfl rfl ?_
  refine ur_ldI rfl rfl ?_
  refine ur_inl rfl (rcv_of hc2) (Nat.le_of_ble_eq_true rfl) (Nat.le_of_ble_eq_true rfl) (sd_X12_isComet hO0 _ (fun w11 hr12 => ?_))
  obtain ⟨b13, rfl, t14, t15⟩ := hr12
  show uRun _ (uCall Mt _) _ 5 (_, [(.inl (bi b13))], _, _, _)
  refine ur_eqB rfl (fun c16 => ?_) (fun c16 => ?_)
  · have t17 := t15 c16
    clear t14 t15
    refine ur_push rfl ?_
    exact ur_ret rfl rfl (hQ _ ⟨_, rfl, ⟨fun _ => by omega, fun q => by exfalso; omega⟩⟩ )
  · have t18 := t14 c16
    clear t14 t15
    refine ur_ldI rfl rfl ?_
    refine ur_push rfl ?_
    refine ur_push rfl ?_
    refine ur_callv rfl rfl (Nat.le_of_ble_eq_true rfl) (Nat.le_of_ble_eq_true rfl) rfl (sp_in _ _ _ _ _) ?_
    refine ur_eqB rfl (fun c21 => ?_) (fun c21 => ?_)
    · have t22 := wi_noL c21 l_0 l_60
      refine ur_push rfl ?_
      exact ur_ret rfl rfl (hQ _ ⟨_, rfl, ⟨fun _ => by omega, fun q => by exfalso; omega⟩⟩ )
    · have t23 := wi_toL c21 l_0 l_60
      refine ur_ldI rfl rfl ?_
      refine ur_if1 rfl (fun c24 => ?_) (fun c24 => ?_)
      · have t25 := lt_to c24
        refine ur_push rfl ?_
        exact ur_ret rfl rfl (hQ _ ⟨_, rfl, ⟨fun _ => by omega, fun q => by exfalso; omega⟩⟩ )
      · have t26 := lt_no c24
        refine ur_ldI rfl rfl ?_
        refine ur_ldA rfl rfl ?_
        refine ur_get rfl hc2 p4 ?_
        refine ur_binV rfl (fun x27 e28 => ?_)
        have z29 := any_r a3
        have z30 := any_r f3
        have t31 : (x27.toInt = 0 ↔ a3.toInt ≤ (agV f3.toInt).toInt) := sh_ag (by omega) (by omega) e28
        rw [show f3.toInt = fI h0 1 by omega] at t31
        refine ur_if1 rfl (fun c32 => ?_) (fun c32 => ?_)
        · have t33 := ne_to c32
          refine ur_push rfl ?_
          exact ur_ret rfl rfl (hQ _ ⟨_, rfl, ⟨fun _ => by omega, fun q => by exfalso; omega⟩⟩ )
        · have t34 := ne_no c32
          refine ur_ldI rfl rfl ?_
          refine ur_push rfl ?_
          refine ur_push rfl ?_
          refine ur_callv rfl rfl (Nat.le_of_ble_eq_true rfl) (Nat.le_of_ble_eq_true rfl) rfl (sp_in _ _ _ _ _) ?_
          refine ur_neB rfl (fun c37 => ?_) (fun c37 => ?_)
          · have t38 := wi_toL c37 l_0 l_1
            refine ur_ldA rfl rfl ?_
            refine ur_ldI rfl rfl ?_
            refine ur_ldI rfl rfl ?_
            refine ur_ldI rfl rfl ?_
            refine ur_inl rfl (rcv_of hc2) (Nat.le_of_ble_eq_true rfl) (Nat.le_of_ble_eq_true rfl) (sd_X12_passBy hO0 hX0 _ (by show 0 ≤ a1.toInt ∧ a1.toInt ≤ 11; omega) _ (by show 0 ≤ a2.toInt ∧ a2.toInt ≤ 60; omega) _ pre0 (by omega) (fun w39 hr40 => ?_))
            obtain ⟨x41, rfl, f42⟩ := hr40
            show uRun _ (uCall Mt _) _ 51 (_, [(.inl x41)], _, _, _)
            refine ur_svIk [some (.inr (.inr (some 69))), some (.inl a1), some (.inl a2), some (.inl a3), some (.inl a4), some (.inl x41), none] rfl rfl ?_
            refine ur_ldA rfl rfl ?_
            refine ur_ldI rfl rfl ?_
            refine ur_ldI rfl rfl ?_
            refine ur_ldA rfl rfl ?_
            refine ur_inl rfl (rcv_of hc2) (Nat.le_of_ble_eq_true rfl) (Nat.le_of_ble_eq_true rfl) (sd_X12_allGreats hO0  (fun w43 hr44 => ?_))
            obtain ⟨x45, rfl, f46⟩ := hr44
            show uRun _ (uCall Mt _) _ 60 (_, [(.inl x45), (.inl a2), (.inl a1), (.inr (.inr (some 69)))], _, _, _)
            refine ur_inl rfl (rcv_of hc2) (Nat.le_of_ble_eq_true rfl) (Nat.le_of_ble_eq_true rfl) (sd_X12_passBy hO0 hX0 _ (by show 0 ≤ a1.toInt ∧ a1.toInt ≤ 11; omega) _ (by show 0 ≤ a2.toInt ∧ a2.toInt ≤ 60; omega) _ pre0 (by omega) (fun w47 hr48 => ?_))
            obtain ⟨x49, rfl, f50⟩ := hr48
            show uRun _ (uCall Mt _) _ 63 (_, [(.inl x49)], _, _, _)
            refine ur_svIk [some (.inr (.inr (some 69))), some (.inl a1), some (.inl a2), some (.inl a3), some (.inl a4), some (.inl x41), some (.inl x49)] rfl rfl ?_
            have v51 : x41.toInt = fb (fun t => t + gI h0 73 a1.toInt + plF (gI h0 70) (gI h0 71) a3 t (fI h0 1).toNat) a2.toInt.toNat (gI h0 72 a1.toInt) := f42.1
            have v52 : x49.toInt = fb (fun t => t + gI h0 73 a1.toInt + plF (gI h0 70) (gI h0 71) (agV (fI h0 1)) t (fI h0 1).toNat) a2.toInt.toNat (gI h0 72 a1.toInt) := by have w := f50.1; rw [f46.1] at w; exact w
            refine ur_ldI rfl rfl ?_
            refine ur_if1 rfl (fun c53 => ?_) (fun c53 => ?_)
            · have t54 := lt_to c53
              refine ur_push rfl ?_
              refine ur_go rfl ?_
              exact ur_ret rfl rfl (hQ _ ⟨_, rfl, ⟨fun q => absurd (by omega) q, fun _ => (by rw [← v51, ← v52]; exact ⟨fun q => by omega, fun q => ⟨fun q => by omega, fun q => ⟨fun q => by omega, fun q => by omega⟩⟩⟩)⟩⟩ )
            · have t55 := lt_no c53
              refine ur_ldI rfl rfl ?_
              refine ur_push rfl ?_
              refine ur_if2 rfl (fun c56 => ?_) (fun c56 => ?_)
              · have t57 := ne_to c56
                refine ur_ldI rfl rfl ?_
                refine ur_if1 rfl (fun c58 => ?_) (fun c58 => ?_)
                · have t59 := ne_to c58
                  exfalso
                  omega
                · have t60 := ne_no c58
                  refine ur_ldI rfl rfl ?_
                  refine ur_go rfl ?_
                  exact ur_ret rfl rfl (hQ _ ⟨_, rfl, ⟨fun q => absurd (by omega) q, fun _ => (by rw [← v51, ← v52]; exact ⟨fun q => by omega, fun q => ⟨fun q => by omega, fun q => ⟨fun q => by omega, fun q => by omega⟩⟩⟩)⟩⟩ )
              · have t61 := ne_no c56
                refine ur_ldI rfl rfl ?_
                refine ur_if1 rfl (fun c62 => ?_) (fun c62 => ?_)
                · have t63 := le_to c62
                  refine ur_ldI rfl rfl ?_
                  refine ur_if1 rfl (fun c64 => ?_) (fun c64 => ?_)
                  · have t65 := ne_to c64
                    refine ur_ldI rfl rfl ?_
                    refine ur_ldI rfl rfl ?_
                    refine ur_binV rfl (fun x66 e67 => ?_)
                    have z68 := any_r x49
                    have z69 := any_r x41
                    have t70 := ti_sub e67 (by omega) (by omega)
                    exact ur_ret rfl rfl (hQ _ ⟨_, rfl, ⟨fun q => absurd (by omega) q, fun _ => (by rw [← v51, ← v52]; exact ⟨fun q => by omega, fun q => ⟨fun q => by omega, fun q => ⟨fun q => by omega, fun q => by omega⟩⟩⟩)⟩⟩ )
                  · have t71 := ne_no c64
                    exfalso
                    omega
                · have t72 := le_no c62
                  refine ur_push rfl ?_
                  refine ur_go rfl ?_
                  exact ur_ret rfl rfl (hQ _ ⟨_, rfl, ⟨fun q => absurd (by omega) q, fun _ => (by rw [← v51, ← v52]; exact ⟨fun q => by omega, fun q => ⟨fun q => by omega, fun q => ⟨fun q => by omega, fun q => by omega⟩⟩⟩)⟩⟩ )
          · have t73 := wi_noL c37 l_0 l_1
            refine ur_push rfl ?_
            exact ur_ret rfl rfl (hQ _ ⟨_, rfl, ⟨fun _ => by omega, fun q => by exfalso; omega⟩⟩ )
end SKY11
