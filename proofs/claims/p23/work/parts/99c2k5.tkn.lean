/-! WHAT PAGES TAKE, what a word has, printed by program -/
section TKN
set_option maxRecDepth 20000 in
set_option maxHeartbeats 4000000 in
theorem sd_X11_isUnder {d kc ks : Nat} {h0 : aH} {Q : Option aV → aH → Prop} (hO0 : OK h0) (a0 : Int32) (b0 : 0 ≤ a0.toInt ∧ a0.toInt ≤ 7) (a1 : Int32) (b1 : 0 ≤ a1.toInt ∧ a1.toInt ≤ 7) (hQ : ∀ r, (∃ q, r = some (.inl (bi q)) ∧ (q = true → (a1.toInt = 0 ∨ a0.toInt = a1.toInt ∨ (a1.toInt = 1 ∧ a0.toInt = 6) ∨ (a1.toInt = 2 ∧ a0.toInt = 7))) ∧ (q = false → ¬ (a1.toInt = 0 ∨ a0.toInt = a1.toInt ∨ (a1.toInt = 1 ∧ a0.toInt = 6) ∨ (a1.toInt = 2 ∧ a0.toInt = 7)))) → Q r h0) : uCall Mt (d + 3) 181 [(.inl a0), (.inl a1)] h0 kc ks Q := by
  have l_0 : ((0) : Int32).toInt = 0 := by decide
  have l_1 : ((1) : Int32).toInt = 1 := by decide
  have l_8 : ((8) : Int32).toInt = 8 := by decide
  refine uc_ink [some (.inl a0), some (.inl a1), none, none] mt_181 (Nat.le_of_ble_eq_true rfl) rfl ?_
  refine ur_ldI rfl rfl ?_
  refine ur_svIk [some (.inl a0), some (.inl a1), some (.inl a0), none] rfl rfl ?_
  refine ur_push rfl ?_
  refine ur_svIk [some (.inl a0), some (.inl a1), some (.inl a0), some (.inl 0)] rfl rfl ?_
  have L3 : ∀ (m4 : Nat) (x1 : Int32) (x2 : Int32) , ((-1 ≤ x1.toInt ∧ x1.toInt ≤ 7) ∧ (0 ≤ x2.toInt ∧ x2.toInt ≤ 8) ∧ ((a1.toInt = 0 ∨ a0.toInt = a1.toInt ∨ (a1.toInt = 1 ∧ a0.toInt = 6) ∨ (a1.toInt = 2 ∧ a0.toInt = 7)) ↔ (0 ≤ x1.toInt ∧ (a1.toInt = 0 ∨ x1.toInt = a1.toInt ∨ (a1.toInt = 1 ∧ x1.toInt = 6) ∨ (a1.toInt = 2 ∧ x1.toInt = 7)))) ∧ (x1.toInt ≥ 6 → x2.toInt ≤ 0) ∧ (x1.toInt ≥ 1 → x2.toInt ≤ 1) ∧ (x1.toInt ≥ 0 → x2.toInt ≤ 2)) → ((9 - x2.toInt).toNat) < m4 → uRun oX11_isUnder (uCall Mt (d + 2)) Q 4 ([some (.inl a0), some (.inl a1), some (.inl x1), some (.inl x2)], [], h0, kc, ks) := by
    intro m4
    induction m4 with
    | zero => intro x1 x2 iv6 mm7; omega
    | succ m4 ih5 =>
      intro x1 x2 iv6 mm7
      refine ur_ldI rfl rfl ?_
      refine ur_push rfl ?_
      refine ur_if2 rfl (fun c8 => ?_) (fun c8 => ?_)
      · have t9 := le_to c8
        refine ur_push rfl ?_
        exact ur_ret rfl rfl (hQ _ ⟨false, rfl, fun e => absurd e (by decide), fun _ => by omega⟩ )
      · have t10 := le_no c8
        refine ur_ldI rfl rfl ?_
        refine ur_if1 rfl (fun c11 => ?_) (fun c11 => ?_)
        · have t12 := lt_to c11
          refine ur_push rfl ?_
          exact ur_ret rfl rfl (hQ _ ⟨false, rfl, fun e => absurd e (by decide), fun _ => by omega⟩ )
        · have t13 := lt_no c11
          refine ur_ldI rfl rfl ?_
          refine ur_ldI rfl rfl ?_
          have z14 := any_r x1
          have z15 := any_r a1
          refine ur_if2 rfl (fun c16 => ?_) (fun c16 => ?_)
          · have t17 := ne_to c16
            refine ur_ldI rfl rfl ?_
            refine ur_inl rfl rfl (Nat.le_of_ble_eq_true rfl) (Nat.le_of_ble_eq_true rfl) (sd_X11_kindAbove hO0 _ (fun w18 hr19 => ?_))
            obtain ⟨x20, rfl, t21⟩ := hr19
            show uRun _ (uCall Mt _) _ 25 (_, [(.inl x20)], _, _, _)
            refine ur_svIk [some (.inl a0), some (.inl a1), some (.inl x20), some (.inl x2)] rfl rfl ?_
            refine ur_incV (fun z => [some (.inl a0), some (.inl a1), some (.inl x20), some (.inl z)]) rfl rfl (fun _ => rfl) (fun x22 e23 => ?_)
            have z24 := any_r x2
            have t25 := ti_add e23 (by omega) (by omega)
            refine ur_go rfl ?_
            have z26 := any_r x20
            have z27 := any_r x22
            exact ih5 x20 x22 (by omega) (by omega)
          · have t28 := ne_no c16
            refine ur_push rfl ?_
            exact ur_ret rfl rfl (hQ _ ⟨true, rfl, fun _ => by omega, fun e => absurd e (by decide)⟩ )
  have z29 := any_r a0
  exact L3 _ a0 0 (by omega) (Nat.lt_succ_self _)

set_option maxRecDepth 20000 in
set_option maxHeartbeats 4000000 in
theorem sd_X12_isUnder {d kc ks : Nat} {h0 : aH} {Q : Option aV → aH → Prop} (hO0 : OK h0) (a0 : Int32) (a1 : Int32) (hQ : ∀ r, (∃ q, r = some (.inl (bi q)) ∧ (q = true → (a1.toInt = 0 ∨ a0.toInt = a1.toInt ∨ (a1.toInt = 1 ∧ a0.toInt = 6) ∨ (a1.toInt = 2 ∧ a0.toInt = 7))) ∧ (q = false → ¬ (a1.toInt = 0 ∨ a0.toInt = a1.toInt ∨ (a1.toInt = 1 ∧ a0.toInt = 6) ∨ (a1.toInt = 2 ∧ a0.toInt = 7)))) → Q r h0) : uCall Mt (d + 1) 234 [(.inl a0), (.inl a1)] h0 kc ks Q := by
  have l_0 : ((0) : Int32).toInt = 0 := by decide
  have l_1 : ((1) : Int32).toInt = 1 := by decide
  have l_2 : ((2) : Int32).toInt = 2 := by decide
  have l_6 : ((6) : Int32).toInt = 6 := by decide
  have l_7 : ((7) : Int32).toInt = 7 := by decide
  refine uc_ink [some (.inl a0), some (.inl a1)] mt_234 (Nat.le_of_ble_eq_true rfl) rfl ?_
  refine ur_ldI rfl rfl ?_
  refine ur_if1 rfl (fun c1 => ?_) (fun c1 => ?_)
  · have t2 := eq_to c1
    refine ur_push rfl ?_
    refine ur_go rfl ?_
    exact ur_ret rfl rfl (hQ _ ⟨true, rfl, fun _ => by omega, fun e => absurd e (by decide)⟩ )
  · have t3 := eq_no c1
    refine ur_ldI rfl rfl ?_
    refine ur_ldI rfl rfl ?_
    have z4 := any_r a0
    have z5 := any_r a1
    refine ur_if2 rfl (fun c6 => ?_) (fun c6 => ?_)
    · have t7 := eq_to c6
      refine ur_push rfl ?_
      refine ur_go rfl ?_
      exact ur_ret rfl rfl (hQ _ ⟨true, rfl, fun _ => by omega, fun e => absurd e (by decide)⟩ )
    · have t8 := eq_no c6
      refine ur_ldI rfl rfl ?_
      refine ur_push rfl ?_
      refine ur_if2 rfl (fun c9 => ?_) (fun c9 => ?_)
      · have t10 := ne_to c9
        refine ur_ldI rfl rfl ?_
        refine ur_push rfl ?_
        refine ur_if2 rfl (fun c11 => ?_) (fun c11 => ?_)
        · have t12 := ne_to c11
          refine ur_push rfl ?_
          exact ur_ret rfl rfl (hQ _ ⟨false, rfl, fun e => absurd e (by decide), fun _ => by omega⟩ )
        · have t13 := ne_no c11
          refine ur_ldI rfl rfl ?_
          refine ur_push rfl ?_
          refine ur_if2 rfl (fun c14 => ?_) (fun c14 => ?_)
          · have t15 := ne_to c14
            refine ur_push rfl ?_
            exact ur_ret rfl rfl (hQ _ ⟨false, rfl, fun e => absurd e (by decide), fun _ => by omega⟩ )
          · have t16 := ne_no c14
            refine ur_push rfl ?_
            refine ur_go rfl ?_
            exact ur_ret rfl rfl (hQ _ ⟨true, rfl, fun _ => by omega, fun e => absurd e (by decide)⟩ )
      · have t17 := ne_no c9
        refine ur_ldI rfl rfl ?_
        refine ur_push rfl ?_
        refine ur_if2 rfl (fun c18 => ?_) (fun c18 => ?_)
        · have t19 := eq_to c18
          refine ur_push rfl ?_
          refine ur_go rfl ?_
          exact ur_ret rfl rfl (hQ _ ⟨true, rfl, fun _ => by omega, fun e => absurd e (by decide)⟩ )
        · have t20 := eq_no c18
          refine ur_ldI rfl rfl ?_
          refine ur_push rfl ?_
          refine ur_if2 rfl (fun c21 => ?_) (fun c21 => ?_)
          · have t22 := ne_to c21
            refine ur_push rfl ?_
            exact ur_ret rfl rfl (hQ _ ⟨false, rfl, fun e => absurd e (by decide), fun _ => by omega⟩ )
          · have t23 := ne_no c21
            exfalso
            omega

set_option maxRecDepth 20000 in
set_option maxHeartbeats 4000000 in
theorem sd_X11_taken {d kc ks : Nat} {h0 : aH} {Q : Option aV → aH → Prop} (hO0 : OK h0) (a1 : Int32) (a2 : Int32) (pre0 : NA h0) (hQ : ∀ r, (∃ x : Int32, r = some (.inl x) ∧ ((¬ ((0 ≤ a1.toInt ∧ a1.toInt ≤ 5) ∧ 0 ≤ a2.toInt ∧ a2.toInt ≤ 7) → x.toInt = -1) ∧ (((0 ≤ a1.toInt ∧ a1.toInt ≤ 5) ∧ 0 ≤ a2.toInt ∧ a2.toInt ≤ 7) ∧ gI h0 58 a1.toInt = 0 → x.toInt = -11) ∧ (((0 ≤ a1.toInt ∧ a1.toInt ≤ 5) ∧ 0 ≤ a2.toInt ∧ a2.toInt ≤ 7) ∧ gI h0 58 a1.toInt ≠ 0 ∧ gI h0 58 a1.toInt ≠ 1 → x.toInt = -12) ∧ (((0 ≤ a1.toInt ∧ a1.toInt ≤ 5) ∧ 0 ≤ a2.toInt ∧ a2.toInt ≤ 7) ∧ gI h0 58 a1.toInt = 1 ∧ ¬ (0 ≤ gI h0 59 a1.toInt ∧ gI h0 59 a1.toInt < fO h0 15 1) → x.toInt = -12) ∧ (((0 ≤ a1.toInt ∧ a1.toInt ≤ 5) ∧ 0 ≤ a2.toInt ∧ a2.toInt ≤ 7) ∧ gI h0 58 a1.toInt = 1 ∧ (0 ≤ gI h0 59 a1.toInt ∧ gI h0 59 a1.toInt < fO h0 15 1) → ∃ z, wz h0 (gI h0 59 a1.toInt) z ∧ ((a2.toInt = 0 ∨ fO h0 z 1 = a2.toInt ∨ (a2.toInt = 1 ∧ fO h0 z 1 = 6) ∨ (a2.toInt = 2 ∧ fO h0 z 1 = 7)) → x.toInt = fO h0 z 1) ∧ (¬ (a2.toInt = 0 ∨ fO h0 z 1 = a2.toInt ∨ (a2.toInt = 1 ∧ fO h0 z 1 = 6) ∨ (a2.toInt = 2 ∧ fO h0 z 1 = 7)) → x.toInt = -12)))) → Q r h0) : uCall Mt (d + 4) 164 [(.inr (.inr (some 0))), (.inl a1), (.inl a2)] h0 kc ks Q := by
  have l_m12 : ((-12) : Int32).toInt = -12 := by decide
  have l_m11 : ((-11) : Int32).toInt = -11 := by decide
  have l_m1 : ((-1) : Int32).toInt = -1 := by decide
  have l_0 : ((0) : Int32).toInt = 0 := by decide
  have l_5 : ((5) : Int32).toInt = 5 := by decide
  have l_7 : ((7) : Int32).toInt = 7 := by decide
  refine uc_ink [some (.inr (.inr (some 0))), some (.inl a1), some (.inl a2), none] mt_164 (Nat.le_of_ble_eq_true rfl) rfl ?_
  obtain ⟨f2, f3, f4, f5, hc1, k6⟩ := ok_15 hO0
  have t7 := fO_of (k := 1) hc1 rfl
  refine ur_ldA rfl rfl ?_
  obtain ⟨hc8, k9⟩ := ok_0 hO0
  refine ur_get rfl hc8 rfl ?_
  refine ur_ldI rfl rfl ?_
  obtain ⟨hc10, k11⟩ := ok_57 hO0
  refine ur_callv rfl rfl (Nat.le_of_ble_eq_true rfl) (Nat.le_of_ble_eq_true rfl) (rcv_of hc10) (sp_page _ _) ?_
  refine ur_eqB rfl (fun c14 => ?_) (fun c14 => ?_)
  · have t15 := wi_noL c14 l_0 l_5
    refine ur_push rfl ?_
    exact ur_ret rfl rfl (hQ _ ⟨_, rfl, ⟨fun q => by omega, fun q => by omega, fun q => by omega, fun q => by omega, fun q => by exfalso; omega⟩⟩ )
  · have t16 := wi_toL c14 l_0 l_5
    refine ur_ldI rfl rfl ?_
    refine ur_push rfl ?_
    refine ur_push rfl ?_
    refine ur_callv rfl rfl (Nat.le_of_ble_eq_true rfl) (Nat.le_of_ble_eq_true rfl) rfl (sp_within _ _ _ _ _) ?_
    refine ur_neB rfl (fun c19 => ?_) (fun c19 => ?_)
    · have t20 := wi_toL c19 l_0 l_7
      refine ur_ldA rfl rfl ?_
      refine ur_get rfl hc8 rfl ?_
      refine ur_ldI rfl rfl ?_
      refine ur_inl rfl (rcv_of hc10) (Nat.le_of_ble_eq_true rfl) (Nat.le_of_ble_eq_true rfl) (sd_X4_isEmpty hO0 _ (fun w21 hr22 => ?_))
      obtain ⟨b23, rfl, t24, t25⟩ := hr22
      show uRun _ (uCall Mt _) _ 31 (_, [(.inl (bi b23))], _, _, _)
      refine ur_eqB rfl (fun c26 => ?_) (fun c26 => ?_)
      · have t27 := t25 c26
        clear t24 t25
        refine ur_ldA rfl rfl ?_
        refine ur_get rfl hc8 rfl ?_
        refine ur_ldI rfl rfl ?_
        refine ur_inl rfl (rcv_of hc10) (Nat.le_of_ble_eq_true rfl) (Nat.le_of_ble_eq_true rfl) (sd_X4_isRow hO0 _ (fun w28 hr29 => ?_))
        obtain ⟨b30, rfl, t31, t32⟩ := hr29
        show uRun _ (uCall Mt _) _ 45 (_, [(.inl (bi b30))], _, _, _)
        refine ur_eqB rfl (fun c33 => ?_) (fun c33 => ?_)
        · have t34 := t32 c33
          clear t31 t32
          refine ur_ldA rfl rfl ?_
          refine ur_get rfl hc8 rfl ?_
          refine ur_ldA rfl rfl ?_
          refine ur_get rfl hc8 rfl ?_
          refine ur_ldI rfl rfl ?_
          refine ur_inl rfl (rcv_of hc10) (Nat.le_of_ble_eq_true rfl) (Nat.le_of_ble_eq_true rfl) (sd_X4_wordOn hO0 _ (fun w35 hr36 => ?_))
          obtain ⟨x37, rfl, t38⟩ := hr36
          show uRun _ (uCall Mt _) _ 63 (_, [(.inl x37), (.inr (.inr (some 15)))], _, _, _)
          refine ur_inl rfl (rcv_of hc1) (Nat.le_of_ble_eq_true rfl) (Nat.le_of_ble_eq_true rfl) (se_X1_wordAt hO0 _ pre0 (fun w39 hr40 => ?_))
          obtain ⟨o41, rfl, k42, t43, t44⟩ := hr40
          show uRun _ (uCall Mt _) _ 66 (_, [(.inr (.inr o41))], _, _, _)
          refine ur_svAk [some (.inr (.inr (some 0))), some (.inl a1), some (.inl a2), some (.inr (.inr o41))] rfl rfl ?_
          refine ur_ldA rfl rfl ?_
          cases o41 with
          | none =>
            refine ur_nulN rfl ?_
            have t46 := t43 rfl
            refine ur_push rfl ?_
            exact ur_ret rfl rfl (hQ _ ⟨_, rfl, ⟨fun q => by omega, fun q => by omega, fun q => by omega, fun q => by omega, fun q => by exfalso; omega⟩⟩ )
          | some r45 =>
            refine ur_nulS rfl ?_
            have k47 := k42 _ rfl
            have t48 := t44 _ rfl
            refine ur_ldA rfl rfl ?_
            obtain ⟨g65, f50, f51, f52, f53, f54, f55, f56, f57, f58, o62, f59, f60, f61, hc49, k63, k64⟩ := hO0.word k47.2
            refine ur_get rfl hc49 rfl ?_
            refine ur_ldI rfl rfl ?_
            have t66 := fO_of (k := 1) hc49 rfl
            refine ur_inl rfl rfl (Nat.le_of_ble_eq_true rfl) (Nat.le_of_ble_eq_true rfl) (sd_X11_isUnder hO0 _ (by show 0 ≤ f51.toInt ∧ f51.toInt ≤ 7; omega) _ (by show 0 ≤ a2.toInt ∧ a2.toInt ≤ 7; omega) (fun w67 hr68 => ?_))
            obtain ⟨b69, rfl, t70, t71⟩ := hr68
            show uRun _ (uCall Mt _) _ 79 (_, [(.inl (bi b69))], _, _, _)
            refine ur_neB rfl (fun c72 => ?_) (fun c72 => ?_)
            · have t73 := t70 c72
              clear t70 t71
              refine ur_ldA rfl rfl ?_
              refine ur_get rfl hc49 rfl ?_
              exact ur_ret rfl rfl (hQ _ ⟨_, rfl, ⟨fun q => by exfalso; omega, fun q => by exfalso; omega, fun q => by exfalso; omega, fun q => by exfalso; omega, fun _ => ⟨r45, by rw [show gI h0 59 a1.toInt = x37.toInt by omega]; exact t48.2, fun q => by omega, fun q => by omega⟩⟩⟩ )
            · have t74 := t71 c72
              clear t70 t71
              refine ur_push rfl ?_
              exact ur_ret rfl rfl (hQ _ ⟨_, rfl, ⟨fun q => by exfalso; omega, fun q => by exfalso; omega, fun q => by exfalso; omega, fun q => by exfalso; omega, fun _ => ⟨r45, by rw [show gI h0 59 a1.toInt = x37.toInt by omega]; exact t48.2, fun q => by omega, fun q => by omega⟩⟩⟩ )
        · have t75 := t31 c33
          clear t31 t32
          refine ur_push rfl ?_
          exact ur_ret rfl rfl (hQ _ ⟨_, rfl, ⟨fun q => by omega, fun q => by omega, fun q => by omega, fun q => by omega, fun q => by exfalso; omega⟩⟩ )
      · have t76 := t24 c26
        clear t24 t25
        refine ur_push rfl ?_
        exact ur_ret rfl rfl (hQ _ ⟨_, rfl, ⟨fun q => by omega, fun q => by omega, fun q => by omega, fun q => by omega, fun q => by exfalso; omega⟩⟩ )
    · have t77 := wi_noL c19 l_0 l_7
      refine ur_push rfl ?_
      exact ur_ret rfl rfl (hQ _ ⟨_, rfl, ⟨fun q => by omega, fun q => by omega, fun q => by omega, fun q => by omega, fun q => by exfalso; omega⟩⟩ )

set_option maxRecDepth 20000 in
set_option maxHeartbeats 4000000 in
theorem sd_X12_taken {d kc ks : Nat} {h0 : aH} {Q : Option aV → aH → Prop} (hO0 : OK h0) (a1 : Int32) (a2 : Int32) (hQ : ∀ r, (∃ x : Int32, r = some (.inl x) ∧ ((¬ ((0 ≤ a1.toInt ∧ a1.toInt ≤ 5) ∧ 0 ≤ a2.toInt ∧ a2.toInt ≤ 7) → x.toInt = -1) ∧ (((0 ≤ a1.toInt ∧ a1.toInt ≤ 5) ∧ 0 ≤ a2.toInt ∧ a2.toInt ≤ 7) ∧ gI h0 110 a1.toInt = -1 → x.toInt = -11) ∧ (((0 ≤ a1.toInt ∧ a1.toInt ≤ 5) ∧ 0 ≤ a2.toInt ∧ a2.toInt ≤ 7) ∧ gI h0 110 a1.toInt < -1 → x.toInt = -12) ∧ (((0 ≤ a1.toInt ∧ a1.toInt ≤ 5) ∧ 0 ≤ a2.toInt ∧ a2.toInt ≤ 7) ∧ 0 ≤ gI h0 110 a1.toInt → ((a2.toInt = 0 ∨ gI h0 96 (gI h0 110 a1.toInt) = a2.toInt ∨ (a2.toInt = 1 ∧ gI h0 96 (gI h0 110 a1.toInt) = 6) ∨ (a2.toInt = 2 ∧ gI h0 96 (gI h0 110 a1.toInt) = 7)) → x.toInt = gI h0 96 (gI h0 110 a1.toInt)) ∧ (¬ (a2.toInt = 0 ∨ gI h0 96 (gI h0 110 a1.toInt) = a2.toInt ∨ (a2.toInt = 1 ∧ gI h0 96 (gI h0 110 a1.toInt) = 6) ∨ (a2.toInt = 2 ∧ gI h0 96 (gI h0 110 a1.toInt) = 7)) → x.toInt = -12)))) → Q r h0) : uCall Mt (d + 3) 303 [(.inr (.inr (some 69))), (.inl a1), (.inl a2)] h0 kc ks Q := by
  have l_m12 : ((-12) : Int32).toInt = -12 := by decide
  have l_m11 : ((-11) : Int32).toInt = -11 := by decide
  have l_m1 : ((-1) : Int32).toInt = -1 := by decide
  have l_0 : ((0) : Int32).toInt = 0 := by decide
  have l_5 : ((5) : Int32).toInt = 5 := by decide
  have l_7 : ((7) : Int32).toInt = 7 := by decide
  refine uc_ink [some (.inr (.inr (some 69))), some (.inl a1), some (.inl a2)] mt_303 (Nat.le_of_ble_eq_true rfl) rfl ?_
  refine ur_ldI rfl rfl ?_
  refine ur_callv rfl rfl (Nat.le_of_ble_eq_true rfl) (Nat.le_of_ble_eq_true rfl) rfl (sq_isShf _ _) ?_
  refine ur_eqB rfl (fun c3 => ?_) (fun c3 => ?_)
  · have t4 := wi_noL c3 l_0 l_5
    refine ur_push rfl ?_
    exact ur_ret rfl rfl (hQ _ ⟨_, rfl, ⟨by omega, by omega, by omega, by omega⟩⟩ )
  · have t5 := wi_toL c3 l_0 l_5
    refine ur_ldI rfl rfl ?_
    refine ur_push rfl ?_
    refine ur_push rfl ?_
    refine ur_callv rfl rfl (Nat.le_of_ble_eq_true rfl) (Nat.le_of_ble_eq_true rfl) rfl (sp_in _ _ _ _ _) ?_
    refine ur_neB rfl (fun c8 => ?_) (fun c8 => ?_)
    · have t9 := wi_toL c8 l_0 l_7
      refine ur_ldA rfl rfl ?_
      obtain ⟨fs10, hc11⟩ := hO0.mod
      refine ur_get rfl hc11 (mf_65 hO0 hc11) ?_
      refine ur_ldI rfl rfl ?_
      obtain ⟨xs13, hc12, hn14, he15⟩ := hO0.int (hO0.fix 110 (by decide) rfl)
      refine ur_aldV rfl hc12 hn14 (by omega) (fun x16 hx17 => ?_)
      have t18 := gI_of (j := a1) hc12 hx17
      have t19 : -6 ≤ x16.toInt ∧ x16.toInt ≤ 149 := he15 _ _ hx17
      refine ur_push rfl ?_
      refine ur_if2 rfl (fun c20 => ?_) (fun c20 => ?_)
      · have t21 := ne_to c20
        refine ur_ldA rfl rfl ?_
        refine ur_get rfl hc11 (mf_65 hO0 hc11) ?_
        refine ur_ldI rfl rfl ?_
        refine ur_aldV rfl hc12 hn14 (by omega) (fun x22 hx23 => ?_)
        obtain rfl : x16 = x22 := Option.some.inj (hx17.symm.trans hx23)
        refine ur_if1 rfl (fun c24 => ?_) (fun c24 => ?_)
        · have t25 := lt_to c24
          refine ur_push rfl ?_
          exact ur_ret rfl rfl (hQ _ ⟨_, rfl, ⟨by omega, by omega, by omega, by omega⟩⟩ )
        · have t26 := lt_no c24
          refine ur_ldA rfl rfl ?_
          refine ur_get rfl hc11 (mf_39 hO0 hc11) ?_
          refine ur_ldA rfl rfl ?_
          refine ur_get rfl hc11 (mf_65 hO0 hc11) ?_
          refine ur_ldI rfl rfl ?_
          refine ur_aldV rfl hc12 hn14 (by omega) (fun x27 hx28 => ?_)
          obtain rfl : x16 = x27 := Option.some.inj (hx17.symm.trans hx28)
          obtain ⟨xs30, hc29, hn31, he32⟩ := hO0.int (hO0.fix 96 (by decide) rfl)
          refine ur_aldV rfl hc29 hn31 (by omega) (fun x33 hx34 => ?_)
          have t35 := gI_of (j := x16) hc29 hx34
          have t36 : 0 ≤ x33.toInt ∧ x33.toInt ≤ 7 := he32 _ _ hx34
          have t37 : gI h0 96 (gI h0 110 a1.toInt) = x33.toInt := by rw [show gI h0 110 a1.toInt = x16.toInt by omega]; exact t35
          refine ur_ldI rfl rfl ?_
          refine ur_inl rfl rfl (Nat.le_of_ble_eq_true rfl) (Nat.le_of_ble_eq_true rfl) (sd_X12_isUnder hO0 _ _ (fun w38 hr39 => ?_))
          obtain ⟨b40, rfl, t41, t42⟩ := hr39
          show uRun _ (uCall Mt _) _ 56 (_, [(.inl (bi b40))], _, _, _)
          refine ur_eqB rfl (fun c43 => ?_) (fun c43 => ?_)
          · have t44 := t42 c43
            clear t41 t42
            refine ur_push rfl ?_
            exact ur_ret rfl rfl (hQ _ ⟨_, rfl, ⟨by omega, by omega, by omega, by omega⟩⟩ )
          · have t45 := t41 c43
            clear t41 t42
            refine ur_ldA rfl rfl ?_
            refine ur_get rfl hc11 (mf_39 hO0 hc11) ?_
            refine ur_ldA rfl rfl ?_
            refine ur_get rfl hc11 (mf_65 hO0 hc11) ?_
            refine ur_ldI rfl rfl ?_
            refine ur_aldV rfl hc12 hn14 (by omega) (fun x46 hx47 => ?_)
            obtain rfl : x16 = x46 := Option.some.inj (hx17.symm.trans hx47)
            refine ur_aldV rfl hc29 hn31 (by omega) (fun x48 hx49 => ?_)
            obtain rfl : x33 = x48 := Option.some.inj (hx34.symm.trans hx49)
            have t50 : gI h0 96 (gI h0 110 a1.toInt) = x33.toInt := by rw [show gI h0 110 a1.toInt = x16.toInt by omega]; exact t35
            refine ur_go rfl ?_
            exact ur_ret rfl rfl (hQ _ ⟨_, rfl, ⟨by omega, by omega, by omega, by omega⟩⟩ )
      · have t51 := ne_no c20
        refine ur_push rfl ?_
        exact ur_ret rfl rfl (hQ _ ⟨_, rfl, ⟨by omega, by omega, by omega, by omega⟩⟩ )
    · have t52 := wi_noL c8 l_0 l_7
      refine ur_push rfl ?_
      exact ur_ret rfl rfl (hQ _ ⟨_, rfl, ⟨by omega, by omega, by omega, by omega⟩⟩ )

set_option maxRecDepth 20000 in
set_option maxHeartbeats 4000000 in
theorem sd_X11_ofWord {d kc ks : Nat} {h0 : aH} {Q : Option aV → aH → Prop} (hO0 : OK h0) (a1 : Int32) (a2 : Int32) (pre0 : NA h0) (hQ : ∀ r, (∃ x : Int32, r = some (.inl x) ∧ (((0 ≤ a1.toInt ∧ a1.toInt < fO h0 15 1) → ∃ z, wz h0 a1.toInt z ∧ (a2.toInt = 0 → x.toInt = fO h0 z 1) ∧ (a2.toInt = 1 → x.toInt = fO h0 z 2) ∧ (a2.toInt = 2 → x.toInt = fO h0 z 5) ∧ (a2.toInt = 3 → x.toInt = fO h0 z 6) ∧ (a2.toInt = 4 → x.toInt = fO h0 z 7) ∧ (a2.toInt = 5 → x.toInt = fO h0 z 3) ∧ (a2.toInt = 6 → x.toInt = fO h0 z 4) ∧ (a2.toInt = 7 → x.toInt = fO h0 z 8) ∧ (a2.toInt = 8 → ∃ r, rtz h0 z r ∧ x.toInt = fO h0 r 0) ∧ (a2.toInt = 9 → ∃ r, rtz h0 z r ∧ x.toInt = fO h0 r 10) ∧ (a2.toInt < 0 ∨ 9 < a2.toInt → x.toInt = -1)) ∧ (¬ (0 ≤ a1.toInt ∧ a1.toInt < fO h0 15 1) → x.toInt = -1))) → Q r h0) : uCall Mt (d + 2) 137 [(.inr (.inr (some 0))), (.inl a1), (.inl a2)] h0 kc ks Q := by
  have l_m1 : ((-1) : Int32).toInt = -1 := by decide
  refine uc_ink [some (.inr (.inr (some 0))), some (.inl a1), some (.inl a2), none] mt_137 (Nat.le_of_ble_eq_true rfl) rfl ?_
  obtain ⟨f2, f3, f4, f5, hc1, k6⟩ := ok_15 hO0
  have t7 := fO_of (k := 1) hc1 rfl
  refine ur_ldA rfl rfl ?_
  obtain ⟨hc8, k9⟩ := ok_0 hO0
  refine ur_get rfl hc8 rfl ?_
  refine ur_ldI rfl rfl ?_
  refine ur_inl rfl (rcv_of hc1) (Nat.le_of_ble_eq_true rfl) (Nat.le_of_ble_eq_true rfl) (se_X1_wordAt hO0 _ pre0 (fun w10 hr11 => ?_))
  obtain ⟨o12, rfl, k13, t14, t15⟩ := hr11
  show uRun _ (uCall Mt _) _ 8 (_, [(.inr (.inr o12))], _, _, _)
  refine ur_svAk [some (.inr (.inr (some 0))), some (.inl a1), some (.inl a2), some (.inr (.inr o12))] rfl rfl ?_
  refine ur_ldA rfl rfl ?_
  cases o12 with
  | none =>
    refine ur_nulN rfl ?_
    have t17 := t14 rfl
    refine ur_push rfl ?_
    exact ur_ret rfl rfl (hQ _ ⟨_, rfl, ⟨fun q => by exfalso; omega, fun _ => by omega⟩⟩ )
  | some r16 =>
    refine ur_nulS rfl ?_
    have k18 := k13 _ rfl
    have t19 := t15 _ rfl
    refine ur_ldI rfl rfl ?_
    rcases (show (a2.toInt < 0 ∨ 9 < a2.toInt) ∨ a2.toInt = 0 ∨ a2.toInt = 1 ∨ a2.toInt = 2 ∨ a2.toInt = 3 ∨ a2.toInt = 4 ∨ a2.toInt = 5 ∨ a2.toInt = 6 ∨ a2.toInt = 7 ∨ a2.toInt = 8 ∨ a2.toInt = 9 by omega) with t20 | t20 | t20 | t20 | t20 | t20 | t20 | t20 | t20 | t20 | t20
    · refine ur_tabO rfl (by show a2.toInt < 0 ∨ 0 + 10 ≤ a2.toInt; omega) ?_
      refine ur_push rfl ?_
      exact ur_ret rfl rfl (hQ _ ⟨_, rfl, ⟨fun _ => ⟨r16, t19.2, fun q => by omega, fun q => by omega, fun q => by omega, fun q => by omega, fun q => by omega, fun q => by omega, fun q => by omega, fun q => by omega, fun q => by exfalso; omega, fun q => by exfalso; omega, fun q => by omega⟩, fun q => absurd (by omega) q⟩⟩ )
    · refine ur_tabI rfl (by omega) (by rw [t20]; rfl) ?_
      refine ur_ldA rfl rfl ?_
      obtain ⟨g37, f22, f23, f24, f25, f26, f27, f28, f29, f30, o34, f31, f32, f33, hc21, k35, k36⟩ := hO0.word k18.2
      refine ur_get rfl hc21 rfl ?_
      have t38 := fO_of (k := 1) hc21 rfl
      exact ur_ret rfl rfl (hQ _ ⟨_, rfl, ⟨fun _ => ⟨r16, t19.2, fun q => by omega, fun q => by omega, fun q => by omega, fun q => by omega, fun q => by omega, fun q => by omega, fun q => by omega, fun q => by omega, fun q => by exfalso; omega, fun q => by exfalso; omega, fun q => by omega⟩, fun q => absurd (by omega) q⟩⟩ )
    · refine ur_tabI rfl (by omega) (by rw [t20]; rfl) ?_
      refine ur_ldA rfl rfl ?_
      obtain ⟨g55, f40, f41, f42, f43, f44, f45, f46, f47, f48, o52, f49, f50, f51, hc39, k53, k54⟩ := hO0.word k18.2
      refine ur_get rfl hc39 rfl ?_
      have t56 := fO_of (k := 2) hc39 rfl
      exact ur_ret rfl rfl (hQ _ ⟨_, rfl, ⟨fun _ => ⟨r16, t19.2, fun q => by omega, fun q => by omega, fun q => by omega, fun q => by omega, fun q => by omega, fun q => by omega, fun q => by omega, fun q => by omega, fun q => by exfalso; omega, fun q => by exfalso; omega, fun q => by omega⟩, fun q => absurd (by omega) q⟩⟩ )
    · refine ur_tabI rfl (by omega) (by rw [t20]; rfl) ?_
      refine ur_ldA rfl rfl ?_
      obtain ⟨g73, f58, f59, f60, f61, f62, f63, f64, f65, f66, o70, f67, f68, f69, hc57, k71, k72⟩ := hO0.word k18.2
      refine ur_get rfl hc57 rfl ?_
      have t74 := fO_of (k := 5) hc57 rfl
      exact ur_ret rfl rfl (hQ _ ⟨_, rfl, ⟨fun _ => ⟨r16, t19.2, fun q => by omega, fun q => by omega, fun q => by omega, fun q => by omega, fun q => by omega, fun q => by omega, fun q => by omega, fun q => by omega, fun q => by exfalso; omega, fun q => by exfalso; omega, fun q => by omega⟩, fun q => absurd (by omega) q⟩⟩ )
    · refine ur_tabI rfl (by omega) (by rw [t20]; rfl) ?_
      refine ur_ldA rfl rfl ?_
      obtain ⟨g91, f76, f77, f78, f79, f80, f81, f82, f83, f84, o88, f85, f86, f87, hc75, k89, k90⟩ := hO0.word k18.2
      refine ur_get rfl hc75 rfl ?_
      have t92 := fO_of (k := 6) hc75 rfl
      exact ur_ret rfl rfl (hQ _ ⟨_, rfl, ⟨fun _ => ⟨r16, t19.2, fun q => by omega, fun q => by omega, fun q => by omega, fun q => by omega, fun q => by omega, fun q => by omega, fun q => by omega, fun q => by omega, fun q => by exfalso; omega, fun q => by exfalso; omega, fun q => by omega⟩, fun q => absurd (by omega) q⟩⟩ )
    · refine ur_tabI rfl (by omega) (by rw [t20]; rfl) ?_
      refine ur_ldA rfl rfl ?_
      obtain ⟨g109, f94, f95, f96, f97, f98, f99, f100, f101, f102, o106, f103, f104, f105, hc93, k107, k108⟩ := hO0.word k18.2
      refine ur_get rfl hc93 rfl ?_
      have t110 := fO_of (k := 7) hc93 rfl
      exact ur_ret rfl rfl (hQ _ ⟨_, rfl, ⟨fun _ => ⟨r16, t19.2, fun q => by omega, fun q => by omega, fun q => by omega, fun q => by omega, fun q => by omega, fun q => by omega, fun q => by omega, fun q => by omega, fun q => by exfalso; omega, fun q => by exfalso; omega, fun q => by omega⟩, fun q => absurd (by omega) q⟩⟩ )
    · refine ur_tabI rfl (by omega) (by rw [t20]; rfl) ?_
      refine ur_ldA rfl rfl ?_
      obtain ⟨g127, f112, f113, f114, f115, f116, f117, f118, f119, f120, o124, f121, f122, f123, hc111, k125, k126⟩ := hO0.word k18.2
      refine ur_get rfl hc111 rfl ?_
      have t128 := fO_of (k := 3) hc111 rfl
      exact ur_ret rfl rfl (hQ _ ⟨_, rfl, ⟨fun _ => ⟨r16, t19.2, fun q => by omega, fun q => by omega, fun q => by omega, fun q => by omega, fun q => by omega, fun q => by omega, fun q => by omega, fun q => by omega, fun q => by exfalso; omega, fun q => by exfalso; omega, fun q => by omega⟩, fun q => absurd (by omega) q⟩⟩ )
    · refine ur_tabI rfl (by omega) (by rw [t20]; rfl) ?_
      refine ur_ldA rfl rfl ?_
      obtain ⟨g145, f130, f131, f132, f133, f134, f135, f136, f137, f138, o142, f139, f140, f141, hc129, k143, k144⟩ := hO0.word k18.2
      refine ur_get rfl hc129 rfl ?_
      have t146 := fO_of (k := 4) hc129 rfl
      exact ur_ret rfl rfl (hQ _ ⟨_, rfl, ⟨fun _ => ⟨r16, t19.2, fun q => by omega, fun q => by omega, fun q => by omega, fun q => by omega, fun q => by omega, fun q => by omega, fun q => by omega, fun q => by omega, fun q => by exfalso; omega, fun q => by exfalso; omega, fun q => by omega⟩, fun q => absurd (by omega) q⟩⟩ )
    · refine ur_tabI rfl (by omega) (by rw [t20]; rfl) ?_
      refine ur_ldA rfl rfl ?_
      obtain ⟨g163, f148, f149, f150, f151, f152, f153, f154, f155, f156, o160, f157, f158, f159, hc147, k161, k162⟩ := hO0.word k18.2
      refine ur_get rfl hc147 rfl ?_
      have t164 := fO_of (k := 8) hc147 rfl
      exact ur_ret rfl rfl (hQ _ ⟨_, rfl, ⟨fun _ => ⟨r16, t19.2, fun q => by omega, fun q => by omega, fun q => by omega, fun q => by omega, fun q => by omega, fun q => by omega, fun q => by omega, fun q => by omega, fun q => by exfalso; omega, fun q => by exfalso; omega, fun q => by omega⟩, fun q => absurd (by omega) q⟩⟩ )
    · refine ur_tabI rfl (by omega) (by rw [t20]; rfl) ?_
      refine ur_ldA rfl rfl ?_
      obtain ⟨g181, f166, f167, f168, f169, f170, f171, f172, f173, f174, o178, f175, f176, f177, hc165, k179, k180⟩ := hO0.word k18.2
      refine ur_inl rfl (rcv_of hc165) (Nat.le_of_ble_eq_true rfl) (Nat.le_of_ble_eq_true rfl) (sd_X10_rootWord hO0 g181 k18.2 (fun w182 hr183 => ?_))
      obtain ⟨r184, rfl, k185, f186⟩ := hr183
      show uRun _ (uCall Mt _) _ 116 (_, [(.inr (.inr (some r184)))], _, _, _)
      obtain ⟨g203, f188, f189, f190, f191, f192, f193, f194, f195, f196, o200, f197, f198, f199, hc187, k201, k202⟩ := hO0.word k185.2
      refine ur_get rfl hc187 rfl ?_
      have t204 := fO_of (k := 0) hc187 rfl
      exact ur_ret rfl rfl (hQ _ ⟨_, rfl, ⟨fun _ => ⟨r16, t19.2, fun q => by omega, fun q => by omega, fun q => by omega, fun q => by omega, fun q => by omega, fun q => by omega, fun q => by omega, fun q => by omega, fun _ => ⟨r184, f186, by omega⟩, fun q => by exfalso; omega, fun q => by omega⟩, fun q => absurd (by omega) q⟩⟩ )
    · refine ur_tabI rfl (by omega) (by rw [t20]; rfl) ?_
      refine ur_ldA rfl rfl ?_
      obtain ⟨g221, f206, f207, f208, f209, f210, f211, f212, f213, f214, o218, f215, f216, f217, hc205, k219, k220⟩ := hO0.word k18.2
      refine ur_inl rfl (rcv_of hc205) (Nat.le_of_ble_eq_true rfl) (Nat.le_of_ble_eq_true rfl) (sd_X10_rootWord hO0 g221 k18.2 (fun w222 hr223 => ?_))
      obtain ⟨r224, rfl, k225, f226⟩ := hr223
      show uRun _ (uCall Mt _) _ 124 (_, [(.inr (.inr (some r224)))], _, _, _)
      obtain ⟨g243, f228, f229, f230, f231, f232, f233, f234, f235, f236, o240, f237, f238, f239, hc227, k241, k242⟩ := hO0.word k225.2
      refine ur_get rfl hc227 rfl ?_
      have t244 := fO_of (k := 10) hc227 rfl
      exact ur_ret rfl rfl (hQ _ ⟨_, rfl, ⟨fun _ => ⟨r16, t19.2, fun q => by omega, fun q => by omega, fun q => by omega, fun q => by omega, fun q => by omega, fun q => by omega, fun q => by omega, fun q => by omega, fun q => by exfalso; omega, fun _ => ⟨r224, f226, by omega⟩, fun q => by omega⟩, fun q => absurd (by omega) q⟩⟩ )

set_option maxRecDepth 20000 in
set_option maxHeartbeats 4000000 in
theorem sd_X12_rootOf {d kc ks : Nat} {h0 : aH} {Q : Option aV → aH → Prop} (hO0 : OK h0) (hX0 : SX h0) (a1 : Int32) (b1 : 0 ≤ a1.toInt ∧ a1.toInt ≤ 149) (pre0 : a1.toInt < fI h0 38) (hQ : ∀ r, (∃ x : Int32, r = some (.inl x) ∧ (x.toInt = rt h0 a1.toInt ∧ 0 ≤ x.toInt ∧ x.toInt ≤ 149 ∧ x.toInt < fI h0 38)) → Q r h0) : uCall Mt (d + 1) 241 [(.inr (.inr (some 69))), (.inl a1)] h0 kc ks Q := by
  have l_3 : ((3) : Int32).toInt = 3 := by decide
  refine uc_ink [some (.inr (.inr (some 69))), some (.inl a1), none] mt_241 (Nat.le_of_ble_eq_true rfl) rfl ?_
  obtain ⟨fs1, hc2⟩ := hO0.mod
  obtain ⟨f3, p4, t5⟩ := mf_38 hO0 hc2
  have t6 := fI_of hc2 p4
  refine ur_ldI rfl rfl ?_
  refine ur_svIk [some (.inr (.inr (some 69))), some (.inl a1), some (.inl a1)] rfl rfl ?_
  have L8 : ∀ (m9 : Nat) (x7 : Int32) , ((0 ≤ x7.toInt ∧ x7.toInt ≤ 149) ∧ x7.toInt < fI h0 38) → (rt h0 x7.toInt = rt h0 a1.toInt) → (x7.toInt.toNat) < m9 → uRun oX12_rootOf (uCall Mt (d + 0)) Q 2 ([some (.inr (.inr (some 69))), some (.inl a1), some (.inl x7)], [], h0, kc, ks) := by
    intro m9
    induction m9 with
    | zero => intro x7 iv12 px11 mm13; omega
    | succ m9 ih10 =>
      intro x7 iv12 px11 mm13
      refine ur_ldA rfl rfl ?_
      refine ur_get rfl hc2 (mf_39 hO0 hc2) ?_
      refine ur_ldI rfl rfl ?_
      obtain ⟨xs15, hc14, hn16, he17⟩ := hO0.int (hO0.fix 96 (by decide) rfl)
      refine ur_aldV rfl hc14 hn16 (by omega) (fun x18 hx19 => ?_)
      have t20 := gI_of (j := x7) hc14 hx19
      have t21 : 0 ≤ x18.toInt ∧ x18.toInt ≤ 7 := he17 _ _ hx19
      refine ur_push rfl ?_
      refine ur_if2 rfl (fun c22 => ?_) (fun c22 => ?_)
      · have t23 := ne_to c22
        have t24 := rt_0 (h := h0) (i := x7.toInt) (by omega)
        refine ur_ldI rfl rfl ?_
        exact ur_ret rfl rfl (hQ _ ⟨_, rfl, by omega⟩ )
      · have t25 := ne_no c22
        refine ur_ldA rfl rfl ?_
        refine ur_get rfl hc2 (mf_46 hO0 hc2) ?_
        refine ur_ldI rfl rfl ?_
        obtain ⟨xs27, hc26, hn28, he29⟩ := hO0.int (hO0.fix 103 (by decide) rfl)
        refine ur_aldV rfl hc26 hn28 (by omega) (fun x30 hx31 => ?_)
        have t32 := gI_of (j := x7) hc26 hx31
        have t33 : -1 ≤ x30.toInt ∧ x30.toInt ≤ 149 := he29 _ _ hx31
        have t34 := SX.wx (j := x7) hX0 hc14 hx19 hc26 hx31 (by omega) (by omega)
        refine ur_svIk [some (.inr (.inr (some 69))), some (.inl a1), some (.inl x30)] rfl rfl ?_
        refine ur_go rfl ?_
        have z35 := any_r x30
        exact ih10 x30 (by omega) (by rw [show x30.toInt = gI h0 103 x7.toInt by omega, ← rt_s (CEm_of hO0 hX0) (by omega) (by omega) (by omega) (by omega)]; exact px11) (by omega)
  have z36 := any_r a1
  exact L8 _ a1 (by omega) rfl (Nat.lt_succ_self _)

set_option maxRecDepth 20000 in
set_option maxHeartbeats 4000000 in
theorem se_X11_date {d kc ks : Nat} {h0 : aH} {Q : Option aV → aH → Prop} (hO0 : OK h0) (a1 : Int32) (a2 : Int32) (a3 : Int32) (hQ : ∀ r h', (∃ x : Int32, r = some (.inl x) ∧ ((((0 ≤ a1.toInt ∧ a1.toInt ≤ 9999) ∧ (0 ≤ a2.toInt ∧ a2.toInt ≤ 9999) ∧ 0 ≤ a3.toInt ∧ a3.toInt ≤ 9999) ∧ x.toInt = 1 ∧ fO h' 15 2 = a1.toInt ∧ fO h' 15 3 = a2.toInt ∧ fO h' 15 4 = a3.toInt) ∨ (¬ ((0 ≤ a1.toInt ∧ a1.toInt ≤ 9999) ∧ (0 ≤ a2.toInt ∧ a2.toInt ≤ 9999) ∧ 0 ≤ a3.toInt ∧ a3.toInt ≤ 9999) ∧ x.toInt = -1 ∧ fO h' 15 2 = fO h0 15 2 ∧ fO h' 15 3 = fO h0 15 3 ∧ fO h' 15 4 = fO h0 15 4))) → OK h' → un [2502, 2503, 2504] h0 h' → Q r h') : uCall Mt (d + 3) 135 [(.inr (.inr (some 0))), (.inl a1), (.inl a2), (.inl a3)] h0 kc ks Q := by
  have l_m1 : ((-1) : Int32).toInt = -1 := by decide
  have l_0 : ((0) : Int32).toInt = 0 := by decide
  have l_1 : ((1) : Int32).toInt = 1 := by decide
  have l_9999 : ((9999) : Int32).toInt = 9999 := by decide
  refine uc_ink [some (.inr (.inr (some 0))), some (.inl a1), some (.inl a2), some (.inl a3)] mt_135 (Nat.le_of_ble_eq_true rfl) rfl ?_
  obtain ⟨f2, f3, f4, f5, hc1, k6⟩ := ok_15 hO0
  have t7 := fO_of (k := 2) hc1 rfl
  have t8 := fO_of (k := 3) hc1 rfl
  have t9 := fO_of (k := 4) hc1 rfl
  refine ur_ldI rfl rfl ?_
  refine ur_callv rfl rfl (Nat.le_of_ble_eq_true rfl) (Nat.le_of_ble_eq_true rfl) rfl (sp_isDat _ _) ?_
  refine ur_eqB rfl (fun c12 => ?_) (fun c12 => ?_)
  · have t13 := wi_noL c12 l_0 l_9999
    refine ur_push rfl ?_
    exact ur_ret rfl rfl (hQ _ _ ⟨_, rfl, by omega⟩ hO0 un.rf)
  · have t14 := wi_toL c12 l_0 l_9999
    refine ur_ldI rfl rfl ?_
    refine ur_callv rfl rfl (Nat.le_of_ble_eq_true rfl) (Nat.le_of_ble_eq_true rfl) rfl (sp_isDat _ _) ?_
    refine ur_eqB rfl (fun c17 => ?_) (fun c17 => ?_)
    · have t18 := wi_noL c17 l_0 l_9999
      refine ur_push rfl ?_
      exact ur_ret rfl rfl (hQ _ _ ⟨_, rfl, by omega⟩ hO0 un.rf)
    · have t19 := wi_toL c17 l_0 l_9999
      refine ur_ldI rfl rfl ?_
      refine ur_callv rfl rfl (Nat.le_of_ble_eq_true rfl) (Nat.le_of_ble_eq_true rfl) rfl (sp_isDat _ _) ?_
      refine ur_neB rfl (fun c22 => ?_) (fun c22 => ?_)
      · have t23 := wi_toL c22 l_0 l_9999
        refine ur_ldA rfl rfl ?_
        obtain ⟨hc24, k25⟩ := ok_0 hO0
        refine ur_get rfl hc24 rfl ?_
        refine ur_ldI rfl rfl ?_
        refine ur_putV (W := [2502, 2503, 2504]) (fs' := [(.inr (.inr (some 16))), (.inl f2), (.inl a1), (.inl f4), (.inl f5), (.inr (.inr (some 17))), (.inr (.inr (some 18))), (.inr (.inr (some 19))), (.inr (.inr (some 20))), (.inr (.inr (some 21))), (.inr (.inr (some 22)))]) rfl hO0 hc1 (Nat.le_of_ble_eq_true rfl) rfl rfl ⟨rfl, _, _, _, _, rfl, by omega⟩ rfl (Or.inr (by show 1000 + 100 * wid 15 (101, 11) + 2 ∈ _; rw [(wid_f (by decide))]; decide)) (fun h27 hO27 hu27 d26 hc28 => ?_)
        refine ur_ldA rfl rfl ?_
        refine ur_get rfl ((d26 _ (by decide)).trans hc24) rfl ?_
        refine ur_ldI rfl rfl ?_
        have t29 := fO_of (k := 2) hc28 rfl
        have t30 := fO_of (k := 3) hc28 rfl
        have t31 := fO_of (k := 4) hc28 rfl
        refine ur_putV (W := [2502, 2503, 2504]) (fs' := [(.inr (.inr (some 16))), (.inl f2), (.inl a1), (.inl a2), (.inl f5), (.inr (.inr (some 17))), (.inr (.inr (some 18))), (.inr (.inr (some 19))), (.inr (.inr (some 20))), (.inr (.inr (some 21))), (.inr (.inr (some 22)))]) rfl hO27 hc28 (Nat.le_of_ble_eq_true rfl) rfl rfl ⟨rfl, _, _, _, _, rfl, by omega⟩ rfl (Or.inr (by show 1000 + 100 * wid 15 (101, 11) + 3 ∈ _; rw [(wid_f (by decide))]; decide)) (fun h33 hO33 hu33 d32 hc34 => ?_)
        refine ur_ldA rfl rfl ?_
        refine ur_get rfl ((d32 _ (by decide)).trans ((d26 _ (by decide)).trans hc24)) rfl ?_
        refine ur_ldI rfl rfl ?_
        have t35 := fO_of (k := 2) hc34 rfl
        have t36 := fO_of (k := 3) hc34 rfl
        have t37 := fO_of (k := 4) hc34 rfl
        refine ur_putV (W := [2502, 2503, 2504]) (fs' := [(.inr (.inr (some 16))), (.inl f2), (.inl a1), (.inl a2), (.inl a3), (.inr (.inr (some 17))), (.inr (.inr (some 18))), (.inr (.inr (some 19))), (.inr (.inr (some 20))), (.inr (.inr (some 21))), (.inr (.inr (some 22)))]) rfl hO33 hc34 (Nat.le_of_ble_eq_true rfl) rfl rfl ⟨rfl, _, _, _, _, rfl, by omega⟩ rfl (Or.inr (by show 1000 + 100 * wid 15 (101, 11) + 4 ∈ _; rw [(wid_f (by decide))]; decide)) (fun h39 hO39 hu39 d38 hc40 => ?_)
        refine ur_push rfl ?_
        have t41 := fO_of (k := 2) hc40 rfl
        have t42 := fO_of (k := 3) hc40 rfl
        have t43 := fO_of (k := 4) hc40 rfl
        exact ur_ret rfl rfl (hQ _ _ ⟨_, rfl, by omega⟩ hO39 (hu27.tr (hu33.tr hu39)))
      · have t44 := wi_noL c22 l_0 l_9999
        refine ur_push rfl ?_
        exact ur_ret rfl rfl (hQ _ _ ⟨_, rfl, by omega⟩ hO0 un.rf)

set_option maxRecDepth 20000 in
set_option maxHeartbeats 4000000 in
theorem se_X12_date {d kc ks : Nat} {h0 : aH} {Q : Option aV → aH → Prop} (hO0 : OK h0) (a1 : Int32) (a2 : Int32) (a3 : Int32) (hQ : ∀ r h', (∃ x : Int32, r = some (.inl x) ∧ ((((0 ≤ a1.toInt ∧ a1.toInt ≤ 9999) ∧ (0 ≤ a2.toInt ∧ a2.toInt ≤ 9999) ∧ 0 ≤ a3.toInt ∧ a3.toInt ≤ 9999) ∧ x.toInt = 1 ∧ fI h' 47 = a1.toInt ∧ fI h' 48 = a2.toInt ∧ fI h' 49 = a3.toInt) ∨ (¬ ((0 ≤ a1.toInt ∧ a1.toInt ≤ 9999) ∧ (0 ≤ a2.toInt ∧ a2.toInt ≤ 9999) ∧ 0 ≤ a3.toInt ∧ a3.toInt ≤ 9999) ∧ x.toInt = -1 ∧ fI h' 47 = fI h0 47 ∧ fI h' 48 = fI h0 48 ∧ fI h' 49 = fI h0 49))) → OK h' → un [7947, 7948, 7949] h0 h' → Q r h') : uCall Mt (d + 2) 237 [(.inr (.inr (some 69))), (.inl a1), (.inl a2), (.inl a3)] h0 kc ks Q := by
  have l_m1 : ((-1) : Int32).toInt = -1 := by decide
  have l_0 : ((0) : Int32).toInt = 0 := by decide
  have l_1 : ((1) : Int32).toInt = 1 := by decide
  have l_9999 : ((9999) : Int32).toInt = 9999 := by decide
  refine uc_ink [some (.inr (.inr (some 69))), some (.inl a1), some (.inl a2), some (.inl a3)] mt_237 (Nat.le_of_ble_eq_true rfl) rfl ?_
  obtain ⟨fs1, hc2⟩ := hO0.mod
  obtain ⟨f3, p4⟩ := mf_47 hO0 hc2
  have t5 := fI_of hc2 p4
  obtain ⟨f6, p7⟩ := mf_48 hO0 hc2
  have t8 := fI_of hc2 p7
  obtain ⟨f9, p10⟩ := mf_49 hO0 hc2
  have t11 := fI_of hc2 p10
  refine ur_ldI rfl rfl ?_
  refine ur_push rfl ?_
  refine ur_push rfl ?_
  refine ur_callv rfl rfl (Nat.le_of_ble_eq_true rfl) (Nat.le_of_ble_eq_true rfl) rfl (sp_in _ _ _ _ _) ?_
  refine ur_eqB rfl (fun c14 => ?_) (fun c14 => ?_)
  · have t15 := wi_noL c14 l_0 l_9999
    refine ur_push rfl ?_
    exact ur_ret rfl rfl (hQ _ _ ⟨_, rfl, by omega⟩ hO0 un.rf)
  · have t16 := wi_toL c14 l_0 l_9999
    refine ur_ldI rfl rfl ?_
    refine ur_push rfl ?_
    refine ur_push rfl ?_
    refine ur_callv rfl rfl (Nat.le_of_ble_eq_true rfl) (Nat.le_of_ble_eq_true rfl) rfl (sp_in _ _ _ _ _) ?_
    refine ur_eqB rfl (fun c19 => ?_) (fun c19 => ?_)
    · have t20 := wi_noL c19 l_0 l_9999
      refine ur_push rfl ?_
      exact ur_ret rfl rfl (hQ _ _ ⟨_, rfl, by omega⟩ hO0 un.rf)
    · have t21 := wi_toL c19 l_0 l_9999
      refine ur_ldI rfl rfl ?_
      refine ur_push rfl ?_
      refine ur_push rfl ?_
      refine ur_callv rfl rfl (Nat.le_of_ble_eq_true rfl) (Nat.le_of_ble_eq_true rfl) rfl (sp_in _ _ _ _ _) ?_
      refine ur_neB rfl (fun c24 => ?_) (fun c24 => ?_)
      · have t25 := wi_toL c24 l_0 l_9999
        refine ur_ldA rfl rfl ?_
        refine ur_ldI rfl rfl ?_
        refine ur_putM (W := [7947, 7948, 7949]) rfl hO0 hc2 (by decide) rfl (ms_47 (hO0.msh hc2)) (Or.inr (by decide)) (fun h27 hO27 hu27 d26 hc28 => ?_)
        have t29 := fI_of hc28 (gs_eq p4)
        have t30 := fI_of hc28 (gs_ne p7 (by decide))
        have t31 := fI_of hc28 (gs_ne p10 (by decide))
        refine ur_ldA rfl rfl ?_
        refine ur_ldI rfl rfl ?_
        refine ur_putM (W := [7947, 7948, 7949]) rfl hO27 hc28 (by decide) rfl (ms_48 (hO27.msh hc28)) (Or.inr (by decide)) (fun h33 hO33 hu33 d32 hc34 => ?_)
        have t35 := fI_of hc34 (gs_ne (gs_eq p4) (by decide))
        have t36 := fI_of hc34 (gs_eq (gs_ne p7 (by decide)))
        have t37 := fI_of hc34 (gs_ne (gs_ne p10 (by decide)) (by decide))
        refine ur_ldA rfl rfl ?_
        refine ur_ldI rfl rfl ?_
        refine ur_putM (W := [7947, 7948, 7949]) rfl hO33 hc34 (by decide) rfl (ms_49 (hO33.msh hc34)) (Or.inr (by decide)) (fun h39 hO39 hu39 d38 hc40 => ?_)
        have t41 := fI_of hc40 (gs_ne (gs_ne (gs_eq p4) (by decide)) (by decide))
        have t42 := fI_of hc40 (gs_ne (gs_eq (gs_ne p7 (by decide))) (by decide))
        have t43 := fI_of hc40 (gs_eq (gs_ne (gs_ne p10 (by decide)) (by decide)))
        refine ur_push rfl ?_
        exact ur_ret rfl rfl (hQ _ _ ⟨_, rfl, by omega⟩ hO39 (hu27.tr (hu33.tr hu39)))
      · have t44 := wi_noL c24 l_0 l_9999
        refine ur_push rfl ?_
        exact ur_ret rfl rfl (hQ _ _ ⟨_, rfl, by omega⟩ hO0 un.rf)
end TKN
